def g_0 (a1 a2 a3 a4 a5 : Int32) (v w : jx_V) : Option (jx_V × jx_V) := ((f_X4_build a1 a2 a3 a4 v).bind (fun (r1, v1) => ((f_X5_build a1 a2 a3 a4 w).bind (fun (r2, w2) => (some (v1, w2))))))
set_option maxHeartbeats 4000000 in
set_option maxRecDepth 100000 in
theorem lc_0 {p : Program} {l : Launch} {e : Env} {s : State} {m : MethodId} {args : Array Value} {below : List Frame} {meth : Method} {c : Code} {Q : State → Prop} {D : va_G} {cI cJ : ClassId} {adX adM adK adV : Nat → Nat} {A : Nat → Prop} {kc ks b L : Nat} {xs : Nat → Int32} (E : jl_E p s m args c D cI cJ adX adM adK adV A b L xs) (x3 : Int32) (h1 : vp_in (x3 + 1) L) (h2 : vp_in (x3 + 2) L) (h3 : vp_in (x3 + 3) L) (h4 : vp_in (x3 + 4) L) (h5 : vp_in (x3 + 5) L) (v w v' w' : jx_V) (hf : kc ≤ room_1.cells ∧ ks ≤ room_1.slots) (hF : g_0 (xs (x3 + 1).toNatClampNeg) (xs (x3 + 2).toNatClampNeg) (xs (x3 + 3).toNatClampNeg) (xs (x3 + 4).toNatClampNeg) (xs (x3 + 5).toNatClampNeg) v w = some (v', w')) (kend : jl_J p l e room_1 s m args below meth c D cI cJ adX adM A kc ks Q v' w' 1698 [(0, .ref b), (1, .ref (adX 0)), (2, .ref (adM 0)), (3, .int x3)] []) : jl_J p l e room_1 s m args below meth c D cI cJ adX adM A kc ks Q v w 248 [(0, .ref b), (1, .ref (adX 0)), (2, .ref (adM 0)), (3, .int x3)] [] := by
  unfold g_0 at hF
  refine jl_aload_n E dL_law_248 1 rfl ?_
  refine jl_aload_n E dL_law_249 0 rfl ?_
  refine jl_iload_n E dL_law_250 3 rfl ?_
  refine jl_iconst (x := 1) E dL_law_251 (by decide) ?_
  refine jl_iadd E dL_law_252 ?_
  refine jl_sld E dL_law_253 h1 ?_
  refine jl_aload_n E dL_law_254 0 rfl ?_
  refine jl_iload_n E dL_law_255 3 rfl ?_
  refine jl_iconst (x := 2) E dL_law_256 (by decide) ?_
  refine jl_iadd E dL_law_257 ?_
  refine jl_sld E dL_law_258 h2 ?_
  refine jl_aload_n E dL_law_259 0 rfl ?_
  refine jl_iload_n E dL_law_260 3 rfl ?_
  refine jl_iconst (x := 3) E dL_law_261 (by decide) ?_
  refine jl_iadd E dL_law_262 ?_
  refine jl_sld E dL_law_263 h3 ?_
  refine jl_aload_n E dL_law_264 0 rfl ?_
  refine jl_iload_n E dL_law_265 3 rfl ?_
  refine jl_iconst (x := 4) E dL_law_266 (by decide) ?_
  refine jl_iadd E dL_law_267 ?_
  refine jl_sld E dL_law_268 h4 ?_
  obtain ⟨⟨r1, v1⟩, hc1, hF⟩ := jx_bind hF
  try dsimp only at hF
  refine jl_callX (As := [.int (xs (x3 + 1).toNatClampNeg), .int (xs (x3 + 2).toNatClampNeg), .int (xs (x3 + 3).toNatClampNeg), .int (xs (x3 + 4).toNatClampNeg)]) (st := []) E dL_law_269 4 rfl (k_X4_build (jl_inj E.2.2.2.2.2.2.2.2.2.1) (xs (x3 + 1).toNatClampNeg) (xs (x3 + 2).toNatClampNeg) (xs (x3 + 3).toNatClampNeg) (xs (x3 + 4).toNatClampNeg) v r1 v1 hc1) (gl_V tw_636 tw_637 tw_638 tw_190 tw_639) rfl rfl dd_X4_build rfl ⟨by decide, by decide⟩ hf (Nat.le_of_ble_eq_true rfl) ?_
  refine jl_pop E dL_law_272 rfl ?_
  refine jl_aload_n E dL_law_273 2 rfl ?_
  refine jl_aload_n E dL_law_274 0 rfl ?_
  refine jl_iload_n E dL_law_275 3 rfl ?_
  refine jl_iconst (x := 1) E dL_law_276 (by decide) ?_
  refine jl_iadd E dL_law_277 ?_
  refine jl_sld E dL_law_278 h1 ?_
  refine jl_aload_n E dL_law_279 0 rfl ?_
  refine jl_iload_n E dL_law_280 3 rfl ?_
  refine jl_iconst (x := 2) E dL_law_281 (by decide) ?_
  refine jl_iadd E dL_law_282 ?_
  refine jl_sld E dL_law_283 h2 ?_
  refine jl_aload_n E dL_law_284 0 rfl ?_
  refine jl_iload_n E dL_law_285 3 rfl ?_
  refine jl_iconst (x := 3) E dL_law_286 (by decide) ?_
  refine jl_iadd E dL_law_287 ?_
  refine jl_sld E dL_law_288 h3 ?_
  refine jl_aload_n E dL_law_289 0 rfl ?_
  refine jl_iload_n E dL_law_290 3 rfl ?_
  refine jl_iconst (x := 4) E dL_law_291 (by decide) ?_
  refine jl_iadd E dL_law_292 ?_
  refine jl_sld E dL_law_293 h4 ?_
  obtain ⟨⟨r2, w2⟩, hc2, hF⟩ := jx_bind hF
  try dsimp only at hF
  refine jl_callM (As := [.int (xs (x3 + 1).toNatClampNeg), .int (xs (x3 + 2).toNatClampNeg), .int (xs (x3 + 3).toNatClampNeg), .int (xs (x3 + 4).toNatClampNeg)]) (st := []) E dL_law_294 4 rfl (k_X5_build (jl_inj E.2.2.2.2.2.2.2.2.2.2.1) (xs (x3 + 1).toNatClampNeg) (xs (x3 + 2).toNatClampNeg) (xs (x3 + 3).toNatClampNeg) (xs (x3 + 4).toNatClampNeg) w r2 w2 hc2) (gl_V tw_640 tw_641 tw_642 tw_325 tw_643) rfl rfl dd_X5_build rfl ⟨by decide, by decide⟩ hf (Nat.le_of_ble_eq_true rfl) ?_
  refine jl_pop E dL_law_297 rfl ?_
  refine jl_goto (tgt := 1698) E dL_law_298 (by decide) ?_
  obtain ⟨rfl, rfl⟩ := jx_out hF
  exact kend
def g_1 (a1 a2 a3 a4 a5 : Int32) (v w : jx_V) : Option (jx_V × jx_V) := ((f_X4_clear a1 v).bind (fun (r1, v1) => ((f_X5_clear a1 w).bind (fun (r2, w2) => (some (v1, w2))))))
set_option maxHeartbeats 4000000 in
set_option maxRecDepth 100000 in
theorem lc_1 {p : Program} {l : Launch} {e : Env} {s : State} {m : MethodId} {args : Array Value} {below : List Frame} {meth : Method} {c : Code} {Q : State → Prop} {D : va_G} {cI cJ : ClassId} {adX adM adK adV : Nat → Nat} {A : Nat → Prop} {kc ks b L : Nat} {xs : Nat → Int32} (E : jl_E p s m args c D cI cJ adX adM adK adV A b L xs) (x3 : Int32) (h1 : vp_in (x3 + 1) L) (h2 : vp_in (x3 + 2) L) (h3 : vp_in (x3 + 3) L) (h4 : vp_in (x3 + 4) L) (h5 : vp_in (x3 + 5) L) (v w v' w' : jx_V) (hf : kc ≤ room_1.cells ∧ ks ≤ room_1.slots) (hF : g_1 (xs (x3 + 1).toNatClampNeg) (xs (x3 + 2).toNatClampNeg) (xs (x3 + 3).toNatClampNeg) (xs (x3 + 4).toNatClampNeg) (xs (x3 + 5).toNatClampNeg) v w = some (v', w')) (kend : jl_J p l e room_1 s m args below meth c D cI cJ adX adM A kc ks Q v' w' 1698 [(0, .ref b), (1, .ref (adX 0)), (2, .ref (adM 0)), (3, .int x3)] []) : jl_J p l e room_1 s m args below meth c D cI cJ adX adM A kc ks Q v w 301 [(0, .ref b), (1, .ref (adX 0)), (2, .ref (adM 0)), (3, .int x3)] [] := by
  unfold g_1 at hF
  refine jl_aload_n E dL_law_301 1 rfl ?_
  refine jl_aload_n E dL_law_302 0 rfl ?_
  refine jl_iload_n E dL_law_303 3 rfl ?_
  refine jl_iconst (x := 1) E dL_law_304 (by decide) ?_
  refine jl_iadd E dL_law_305 ?_
  refine jl_sld E dL_law_306 h1 ?_
  obtain ⟨⟨r1, v1⟩, hc1, hF⟩ := jx_bind hF
  try dsimp only at hF
  refine jl_callX (As := [.int (xs (x3 + 1).toNatClampNeg)]) (st := []) E dL_law_307 1 rfl (k_X4_clear (jl_inj E.2.2.2.2.2.2.2.2.2.1) (xs (x3 + 1).toNatClampNeg) v r1 v1 hc1) (gl_V tw_644 tw_645 tw_646 tw_190 tw_647) rfl rfl dd_X4_clear rfl ⟨by decide, by decide⟩ hf (Nat.le_of_ble_eq_true rfl) ?_
  refine jl_pop E dL_law_310 rfl ?_
  refine jl_aload_n E dL_law_311 2 rfl ?_
  refine jl_aload_n E dL_law_312 0 rfl ?_
  refine jl_iload_n E dL_law_313 3 rfl ?_
  refine jl_iconst (x := 1) E dL_law_314 (by decide) ?_
  refine jl_iadd E dL_law_315 ?_
  refine jl_sld E dL_law_316 h1 ?_
  obtain ⟨⟨r2, w2⟩, hc2, hF⟩ := jx_bind hF
  try dsimp only at hF
  refine jl_callM (As := [.int (xs (x3 + 1).toNatClampNeg)]) (st := []) E dL_law_317 1 rfl (k_X5_clear (jl_inj E.2.2.2.2.2.2.2.2.2.2.1) (xs (x3 + 1).toNatClampNeg) w r2 w2 hc2) (gl_V tw_648 tw_649 tw_650 tw_325 tw_651) rfl rfl dd_X5_clear rfl ⟨by decide, by decide⟩ hf (Nat.le_of_ble_eq_true rfl) ?_
  refine jl_pop E dL_law_320 rfl ?_
  refine jl_goto (tgt := 1698) E dL_law_321 (by decide) ?_
  obtain ⟨rfl, rfl⟩ := jx_out hF
  exact kend
def g_2 (a1 a2 a3 a4 a5 : Int32) (v w : jx_V) : Option (jx_V × jx_V) := ((f_X4_of a1 a2 v).bind (fun (r1, v1) => ((f_X5_of a1 a2 w).bind (fun (r2, w2) => (some (v1, w2))))))
set_option maxHeartbeats 4000000 in
set_option maxRecDepth 100000 in
theorem lc_2 {p : Program} {l : Launch} {e : Env} {s : State} {m : MethodId} {args : Array Value} {below : List Frame} {meth : Method} {c : Code} {Q : State → Prop} {D : va_G} {cI cJ : ClassId} {adX adM adK adV : Nat → Nat} {A : Nat → Prop} {kc ks b L : Nat} {xs : Nat → Int32} (E : jl_E p s m args c D cI cJ adX adM adK adV A b L xs) (x3 : Int32) (h1 : vp_in (x3 + 1) L) (h2 : vp_in (x3 + 2) L) (h3 : vp_in (x3 + 3) L) (h4 : vp_in (x3 + 4) L) (h5 : vp_in (x3 + 5) L) (v w v' w' : jx_V) (hf : kc ≤ room_1.cells ∧ ks ≤ room_1.slots) (hF : g_2 (xs (x3 + 1).toNatClampNeg) (xs (x3 + 2).toNatClampNeg) (xs (x3 + 3).toNatClampNeg) (xs (x3 + 4).toNatClampNeg) (xs (x3 + 5).toNatClampNeg) v w = some (v', w')) (kend : jl_J p l e room_1 s m args below meth c D cI cJ adX adM A kc ks Q v' w' 1698 [(0, .ref b), (1, .ref (adX 0)), (2, .ref (adM 0)), (3, .int x3)] []) : jl_J p l e room_1 s m args below meth c D cI cJ adX adM A kc ks Q v w 324 [(0, .ref b), (1, .ref (adX 0)), (2, .ref (adM 0)), (3, .int x3)] [] := by
  unfold g_2 at hF
  refine jl_aload_n E dL_law_324 1 rfl ?_
  refine jl_aload_n E dL_law_325 0 rfl ?_
  refine jl_iload_n E dL_law_326 3 rfl ?_
  refine jl_iconst (x := 1) E dL_law_327 (by decide) ?_
  refine jl_iadd E dL_law_328 ?_
  refine jl_sld E dL_law_329 h1 ?_
  refine jl_aload_n E dL_law_330 0 rfl ?_
  refine jl_iload_n E dL_law_331 3 rfl ?_
  refine jl_iconst (x := 2) E dL_law_332 (by decide) ?_
  refine jl_iadd E dL_law_333 ?_
  refine jl_sld E dL_law_334 h2 ?_
  obtain ⟨⟨r1, v1⟩, hc1, hF⟩ := jx_bind hF
  try dsimp only at hF
  refine jl_callX (As := [.int (xs (x3 + 1).toNatClampNeg), .int (xs (x3 + 2).toNatClampNeg)]) (st := []) E dL_law_335 2 rfl (k_X4_of (jl_inj E.2.2.2.2.2.2.2.2.2.1) (xs (x3 + 1).toNatClampNeg) (xs (x3 + 2).toNatClampNeg) v r1 v1 hc1) (gl_V tw_652 tw_653 tw_654 tw_190 tw_655) rfl rfl dd_X4_of rfl ⟨by decide, by decide⟩ hf (Nat.le_of_ble_eq_true rfl) ?_
  refine jl_pop E dL_law_338 rfl ?_
  refine jl_aload_n E dL_law_339 2 rfl ?_
  refine jl_aload_n E dL_law_340 0 rfl ?_
  refine jl_iload_n E dL_law_341 3 rfl ?_
  refine jl_iconst (x := 1) E dL_law_342 (by decide) ?_
  refine jl_iadd E dL_law_343 ?_
  refine jl_sld E dL_law_344 h1 ?_
  refine jl_aload_n E dL_law_345 0 rfl ?_
  refine jl_iload_n E dL_law_346 3 rfl ?_
  refine jl_iconst (x := 2) E dL_law_347 (by decide) ?_
  refine jl_iadd E dL_law_348 ?_
  refine jl_sld E dL_law_349 h2 ?_
  obtain ⟨⟨r2, w2⟩, hc2, hF⟩ := jx_bind hF
  try dsimp only at hF
  refine jl_callM (As := [.int (xs (x3 + 1).toNatClampNeg), .int (xs (x3 + 2).toNatClampNeg)]) (st := []) E dL_law_350 2 rfl (k_X5_of (jl_inj E.2.2.2.2.2.2.2.2.2.2.1) (xs (x3 + 1).toNatClampNeg) (xs (x3 + 2).toNatClampNeg) w r2 w2 hc2) (gl_V tw_656 tw_657 tw_658 tw_325 tw_659) rfl rfl dd_X5_of rfl ⟨by decide, by decide⟩ hf (Nat.le_of_ble_eq_true rfl) ?_
  refine jl_pop E dL_law_353 rfl ?_
  refine jl_goto (tgt := 1698) E dL_law_354 (by decide) ?_
  obtain ⟨rfl, rfl⟩ := jx_out hF
  exact kend
def g_3 (a1 a2 a3 a4 a5 : Int32) (v w : jx_V) : Option (jx_V × jx_V) := ((f_X4_change a1 a2 a3 v).bind (fun (r1, v1) => ((f_X5_change a1 a2 a3 w).bind (fun (r2, w2) => (some (v1, w2))))))
set_option maxHeartbeats 4000000 in
set_option maxRecDepth 100000 in
theorem lc_3 {p : Program} {l : Launch} {e : Env} {s : State} {m : MethodId} {args : Array Value} {below : List Frame} {meth : Method} {c : Code} {Q : State → Prop} {D : va_G} {cI cJ : ClassId} {adX adM adK adV : Nat → Nat} {A : Nat → Prop} {kc ks b L : Nat} {xs : Nat → Int32} (E : jl_E p s m args c D cI cJ adX adM adK adV A b L xs) (x3 : Int32) (h1 : vp_in (x3 + 1) L) (h2 : vp_in (x3 + 2) L) (h3 : vp_in (x3 + 3) L) (h4 : vp_in (x3 + 4) L) (h5 : vp_in (x3 + 5) L) (v w v' w' : jx_V) (hf : kc ≤ room_1.cells ∧ ks ≤ room_1.slots) (hF : g_3 (xs (x3 + 1).toNatClampNeg) (xs (x3 + 2).toNatClampNeg) (xs (x3 + 3).toNatClampNeg) (xs (x3 + 4).toNatClampNeg) (xs (x3 + 5).toNatClampNeg) v w = some (v', w')) (kend : jl_J p l e room_1 s m args below meth c D cI cJ adX adM A kc ks Q v' w' 1698 [(0, .ref b), (1, .ref (adX 0)), (2, .ref (adM 0)), (3, .int x3)] []) : jl_J p l e room_1 s m args below meth c D cI cJ adX adM A kc ks Q v w 357 [(0, .ref b), (1, .ref (adX 0)), (2, .ref (adM 0)), (3, .int x3)] [] := by
  unfold g_3 at hF
  refine jl_aload_n E dL_law_357 1 rfl ?_
  refine jl_aload_n E dL_law_358 0 rfl ?_
  refine jl_iload_n E dL_law_359 3 rfl ?_
  refine jl_iconst (x := 1) E dL_law_360 (by decide) ?_
  refine jl_iadd E dL_law_361 ?_
  refine jl_sld E dL_law_362 h1 ?_
  refine jl_aload_n E dL_law_363 0 rfl ?_
  refine jl_iload_n E dL_law_364 3 rfl ?_
  refine jl_iconst (x := 2) E dL_law_365 (by decide) ?_
  refine jl_iadd E dL_law_366 ?_
  refine jl_sld E dL_law_367 h2 ?_
  refine jl_aload_n E dL_law_368 0 rfl ?_
  refine jl_iload_n E dL_law_369 3 rfl ?_
  refine jl_iconst (x := 3) E dL_law_370 (by decide) ?_
  refine jl_iadd E dL_law_371 ?_
  refine jl_sld E dL_law_372 h3 ?_
  obtain ⟨⟨r1, v1⟩, hc1, hF⟩ := jx_bind hF
  try dsimp only at hF
  refine jl_callX (As := [.int (xs (x3 + 1).toNatClampNeg), .int (xs (x3 + 2).toNatClampNeg), .int (xs (x3 + 3).toNatClampNeg)]) (st := []) E dL_law_373 3 rfl (k_X4_change (jl_inj E.2.2.2.2.2.2.2.2.2.1) (xs (x3 + 1).toNatClampNeg) (xs (x3 + 2).toNatClampNeg) (xs (x3 + 3).toNatClampNeg) v r1 v1 hc1) (gl_V tw_660 tw_661 tw_662 tw_190 tw_663) rfl rfl dd_X4_change rfl ⟨by decide, by decide⟩ hf (Nat.le_of_ble_eq_true rfl) ?_
  refine jl_pop E dL_law_376 rfl ?_
  refine jl_aload_n E dL_law_377 2 rfl ?_
  refine jl_aload_n E dL_law_378 0 rfl ?_
  refine jl_iload_n E dL_law_379 3 rfl ?_
  refine jl_iconst (x := 1) E dL_law_380 (by decide) ?_
  refine jl_iadd E dL_law_381 ?_
  refine jl_sld E dL_law_382 h1 ?_
  refine jl_aload_n E dL_law_383 0 rfl ?_
  refine jl_iload_n E dL_law_384 3 rfl ?_
  refine jl_iconst (x := 2) E dL_law_385 (by decide) ?_
  refine jl_iadd E dL_law_386 ?_
  refine jl_sld E dL_law_387 h2 ?_
  refine jl_aload_n E dL_law_388 0 rfl ?_
  refine jl_iload_n E dL_law_389 3 rfl ?_
  refine jl_iconst (x := 3) E dL_law_390 (by decide) ?_
  refine jl_iadd E dL_law_391 ?_
  refine jl_sld E dL_law_392 h3 ?_
  obtain ⟨⟨r2, w2⟩, hc2, hF⟩ := jx_bind hF
  try dsimp only at hF
  refine jl_callM (As := [.int (xs (x3 + 1).toNatClampNeg), .int (xs (x3 + 2).toNatClampNeg), .int (xs (x3 + 3).toNatClampNeg)]) (st := []) E dL_law_393 3 rfl (k_X5_change (jl_inj E.2.2.2.2.2.2.2.2.2.2.1) (xs (x3 + 1).toNatClampNeg) (xs (x3 + 2).toNatClampNeg) (xs (x3 + 3).toNatClampNeg) w r2 w2 hc2) (gl_V tw_664 tw_665 tw_666 tw_325 tw_667) rfl rfl dd_X5_change rfl ⟨by decide, by decide⟩ hf (Nat.le_of_ble_eq_true rfl) ?_
  refine jl_pop E dL_law_396 rfl ?_
  refine jl_goto (tgt := 1698) E dL_law_397 (by decide) ?_
  obtain ⟨rfl, rfl⟩ := jx_out hF
  exact kend
def g_4 (a1 a2 a3 a4 a5 : Int32) (v w : jx_V) : Option (jx_V × jx_V) := ((f_X4_price a1 a2 v).bind (fun (r1, v1) => ((f_X5_price a1 a2 w).bind (fun (r2, w2) => (some (v1, w2))))))
set_option maxHeartbeats 4000000 in
set_option maxRecDepth 100000 in
theorem lc_4 {p : Program} {l : Launch} {e : Env} {s : State} {m : MethodId} {args : Array Value} {below : List Frame} {meth : Method} {c : Code} {Q : State → Prop} {D : va_G} {cI cJ : ClassId} {adX adM adK adV : Nat → Nat} {A : Nat → Prop} {kc ks b L : Nat} {xs : Nat → Int32} (E : jl_E p s m args c D cI cJ adX adM adK adV A b L xs) (x3 : Int32) (h1 : vp_in (x3 + 1) L) (h2 : vp_in (x3 + 2) L) (h3 : vp_in (x3 + 3) L) (h4 : vp_in (x3 + 4) L) (h5 : vp_in (x3 + 5) L) (v w v' w' : jx_V) (hf : kc ≤ room_1.cells ∧ ks ≤ room_1.slots) (hF : g_4 (xs (x3 + 1).toNatClampNeg) (xs (x3 + 2).toNatClampNeg) (xs (x3 + 3).toNatClampNeg) (xs (x3 + 4).toNatClampNeg) (xs (x3 + 5).toNatClampNeg) v w = some (v', w')) (kend : jl_J p l e room_1 s m args below meth c D cI cJ adX adM A kc ks Q v' w' 1698 [(0, .ref b), (1, .ref (adX 0)), (2, .ref (adM 0)), (3, .int x3)] []) : jl_J p l e room_1 s m args below meth c D cI cJ adX adM A kc ks Q v w 400 [(0, .ref b), (1, .ref (adX 0)), (2, .ref (adM 0)), (3, .int x3)] [] := by
  unfold g_4 at hF
  refine jl_aload_n E dL_law_400 1 rfl ?_
  refine jl_aload_n E dL_law_401 0 rfl ?_
  refine jl_iload_n E dL_law_402 3 rfl ?_
  refine jl_iconst (x := 1) E dL_law_403 (by decide) ?_
  refine jl_iadd E dL_law_404 ?_
  refine jl_sld E dL_law_405 h1 ?_
  refine jl_aload_n E dL_law_406 0 rfl ?_
  refine jl_iload_n E dL_law_407 3 rfl ?_
  refine jl_iconst (x := 2) E dL_law_408 (by decide) ?_
  refine jl_iadd E dL_law_409 ?_
  refine jl_sld E dL_law_410 h2 ?_
  obtain ⟨⟨r1, v1⟩, hc1, hF⟩ := jx_bind hF
  try dsimp only at hF
  refine jl_callX (As := [.int (xs (x3 + 1).toNatClampNeg), .int (xs (x3 + 2).toNatClampNeg)]) (st := []) E dL_law_411 2 rfl (k_X4_price (jl_inj E.2.2.2.2.2.2.2.2.2.1) (xs (x3 + 1).toNatClampNeg) (xs (x3 + 2).toNatClampNeg) v r1 v1 hc1) (gl_V tw_668 tw_669 tw_670 tw_190 tw_671) rfl rfl dd_X4_price rfl ⟨by decide, by decide⟩ hf (Nat.le_of_ble_eq_true rfl) ?_
  refine jl_pop E dL_law_414 rfl ?_
  refine jl_aload_n E dL_law_415 2 rfl ?_
  refine jl_aload_n E dL_law_416 0 rfl ?_
  refine jl_iload_n E dL_law_417 3 rfl ?_
  refine jl_iconst (x := 1) E dL_law_418 (by decide) ?_
  refine jl_iadd E dL_law_419 ?_
  refine jl_sld E dL_law_420 h1 ?_
  refine jl_aload_n E dL_law_421 0 rfl ?_
  refine jl_iload_n E dL_law_422 3 rfl ?_
  refine jl_iconst (x := 2) E dL_law_423 (by decide) ?_
  refine jl_iadd E dL_law_424 ?_
  refine jl_sld E dL_law_425 h2 ?_
  obtain ⟨⟨r2, w2⟩, hc2, hF⟩ := jx_bind hF
  try dsimp only at hF
  refine jl_callM (As := [.int (xs (x3 + 1).toNatClampNeg), .int (xs (x3 + 2).toNatClampNeg)]) (st := []) E dL_law_426 2 rfl (k_X5_price (jl_inj E.2.2.2.2.2.2.2.2.2.2.1) (xs (x3 + 1).toNatClampNeg) (xs (x3 + 2).toNatClampNeg) w r2 w2 hc2) (gl_V tw_672 tw_673 tw_674 tw_325 tw_675) rfl rfl dd_X5_price rfl ⟨by decide, by decide⟩ hf (Nat.le_of_ble_eq_true rfl) ?_
  refine jl_pop E dL_law_429 rfl ?_
  refine jl_goto (tgt := 1698) E dL_law_430 (by decide) ?_
  obtain ⟨rfl, rfl⟩ := jx_out hF
  exact kend
def g_5 (a1 a2 a3 a4 a5 : Int32) (v w : jx_V) : Option (jx_V × jx_V) := ((f_X4_window a1 a2 a3 a4 v).bind (fun (r1, v1) => ((f_X5_window a1 a2 a3 a4 w).bind (fun (r2, w2) => (some (v1, w2))))))
set_option maxHeartbeats 4000000 in
set_option maxRecDepth 100000 in
theorem lc_5 {p : Program} {l : Launch} {e : Env} {s : State} {m : MethodId} {args : Array Value} {below : List Frame} {meth : Method} {c : Code} {Q : State → Prop} {D : va_G} {cI cJ : ClassId} {adX adM adK adV : Nat → Nat} {A : Nat → Prop} {kc ks b L : Nat} {xs : Nat → Int32} (E : jl_E p s m args c D cI cJ adX adM adK adV A b L xs) (x3 : Int32) (h1 : vp_in (x3 + 1) L) (h2 : vp_in (x3 + 2) L) (h3 : vp_in (x3 + 3) L) (h4 : vp_in (x3 + 4) L) (h5 : vp_in (x3 + 5) L) (v w v' w' : jx_V) (hf : kc ≤ room_1.cells ∧ ks ≤ room_1.slots) (hF : g_5 (xs (x3 + 1).toNatClampNeg) (xs (x3 + 2).toNatClampNeg) (xs (x3 + 3).toNatClampNeg) (xs (x3 + 4).toNatClampNeg) (xs (x3 + 5).toNatClampNeg) v w = some (v', w')) (kend : jl_J p l e room_1 s m args below meth c D cI cJ adX adM A kc ks Q v' w' 1698 [(0, .ref b), (1, .ref (adX 0)), (2, .ref (adM 0)), (3, .int x3)] []) : jl_J p l e room_1 s m args below meth c D cI cJ adX adM A kc ks Q v w 433 [(0, .ref b), (1, .ref (adX 0)), (2, .ref (adM 0)), (3, .int x3)] [] := by
  unfold g_5 at hF
  refine jl_aload_n E dL_law_433 1 rfl ?_
  refine jl_aload_n E dL_law_434 0 rfl ?_
  refine jl_iload_n E dL_law_435 3 rfl ?_
  refine jl_iconst (x := 1) E dL_law_436 (by decide) ?_
  refine jl_iadd E dL_law_437 ?_
  refine jl_sld E dL_law_438 h1 ?_
  refine jl_aload_n E dL_law_439 0 rfl ?_
  refine jl_iload_n E dL_law_440 3 rfl ?_
  refine jl_iconst (x := 2) E dL_law_441 (by decide) ?_
  refine jl_iadd E dL_law_442 ?_
  refine jl_sld E dL_law_443 h2 ?_
  refine jl_aload_n E dL_law_444 0 rfl ?_
  refine jl_iload_n E dL_law_445 3 rfl ?_
  refine jl_iconst (x := 3) E dL_law_446 (by decide) ?_
  refine jl_iadd E dL_law_447 ?_
  refine jl_sld E dL_law_448 h3 ?_
  refine jl_aload_n E dL_law_449 0 rfl ?_
  refine jl_iload_n E dL_law_450 3 rfl ?_
  refine jl_iconst (x := 4) E dL_law_451 (by decide) ?_
  refine jl_iadd E dL_law_452 ?_
  refine jl_sld E dL_law_453 h4 ?_
  obtain ⟨⟨r1, v1⟩, hc1, hF⟩ := jx_bind hF
  try dsimp only at hF
  refine jl_callX (As := [.int (xs (x3 + 1).toNatClampNeg), .int (xs (x3 + 2).toNatClampNeg), .int (xs (x3 + 3).toNatClampNeg), .int (xs (x3 + 4).toNatClampNeg)]) (st := []) E dL_law_454 4 rfl (k_X4_window (jl_inj E.2.2.2.2.2.2.2.2.2.1) (xs (x3 + 1).toNatClampNeg) (xs (x3 + 2).toNatClampNeg) (xs (x3 + 3).toNatClampNeg) (xs (x3 + 4).toNatClampNeg) v r1 v1 hc1) (gl_V tw_676 tw_677 tw_678 tw_190 tw_679) rfl rfl dd_X4_window rfl ⟨by decide, by decide⟩ hf (Nat.le_of_ble_eq_true rfl) ?_
  refine jl_pop E dL_law_457 rfl ?_
  refine jl_aload_n E dL_law_458 2 rfl ?_
  refine jl_aload_n E dL_law_459 0 rfl ?_
  refine jl_iload_n E dL_law_460 3 rfl ?_
  refine jl_iconst (x := 1) E dL_law_461 (by decide) ?_
  refine jl_iadd E dL_law_462 ?_
  refine jl_sld E dL_law_463 h1 ?_
  refine jl_aload_n E dL_law_464 0 rfl ?_
  refine jl_iload_n E dL_law_465 3 rfl ?_
  refine jl_iconst (x := 2) E dL_law_466 (by decide) ?_
  refine jl_iadd E dL_law_467 ?_
  refine jl_sld E dL_law_468 h2 ?_
  refine jl_aload_n E dL_law_469 0 rfl ?_
  refine jl_iload_n E dL_law_470 3 rfl ?_
  refine jl_iconst (x := 3) E dL_law_471 (by decide) ?_
  refine jl_iadd E dL_law_472 ?_
  refine jl_sld E dL_law_473 h3 ?_
  refine jl_aload_n E dL_law_474 0 rfl ?_
  refine jl_iload_n E dL_law_475 3 rfl ?_
  refine jl_iconst (x := 4) E dL_law_476 (by decide) ?_
  refine jl_iadd E dL_law_477 ?_
  refine jl_sld E dL_law_478 h4 ?_
  obtain ⟨⟨r2, w2⟩, hc2, hF⟩ := jx_bind hF
  try dsimp only at hF
  refine jl_callM (As := [.int (xs (x3 + 1).toNatClampNeg), .int (xs (x3 + 2).toNatClampNeg), .int (xs (x3 + 3).toNatClampNeg), .int (xs (x3 + 4).toNatClampNeg)]) (st := []) E dL_law_479 4 rfl (k_X5_window (jl_inj E.2.2.2.2.2.2.2.2.2.2.1) (xs (x3 + 1).toNatClampNeg) (xs (x3 + 2).toNatClampNeg) (xs (x3 + 3).toNatClampNeg) (xs (x3 + 4).toNatClampNeg) w r2 w2 hc2) (gl_V tw_680 tw_681 tw_682 tw_325 tw_683) rfl rfl dd_X5_window rfl ⟨by decide, by decide⟩ hf (Nat.le_of_ble_eq_true rfl) ?_
  refine jl_pop E dL_law_482 rfl ?_
  refine jl_goto (tgt := 1698) E dL_law_483 (by decide) ?_
  obtain ⟨rfl, rfl⟩ := jx_out hF
  exact kend
def g_6 (a1 a2 a3 a4 a5 : Int32) (v w : jx_V) : Option (jx_V × jx_V) := ((f_X4_windowOf a1 a2 v).bind (fun (r1, v1) => ((f_X5_windowOf a1 a2 w).bind (fun (r2, w2) => (some (v1, w2))))))
set_option maxHeartbeats 4000000 in
set_option maxRecDepth 100000 in
theorem lc_6 {p : Program} {l : Launch} {e : Env} {s : State} {m : MethodId} {args : Array Value} {below : List Frame} {meth : Method} {c : Code} {Q : State → Prop} {D : va_G} {cI cJ : ClassId} {adX adM adK adV : Nat → Nat} {A : Nat → Prop} {kc ks b L : Nat} {xs : Nat → Int32} (E : jl_E p s m args c D cI cJ adX adM adK adV A b L xs) (x3 : Int32) (h1 : vp_in (x3 + 1) L) (h2 : vp_in (x3 + 2) L) (h3 : vp_in (x3 + 3) L) (h4 : vp_in (x3 + 4) L) (h5 : vp_in (x3 + 5) L) (v w v' w' : jx_V) (hf : kc ≤ room_1.cells ∧ ks ≤ room_1.slots) (hF : g_6 (xs (x3 + 1).toNatClampNeg) (xs (x3 + 2).toNatClampNeg) (xs (x3 + 3).toNatClampNeg) (xs (x3 + 4).toNatClampNeg) (xs (x3 + 5).toNatClampNeg) v w = some (v', w')) (kend : jl_J p l e room_1 s m args below meth c D cI cJ adX adM A kc ks Q v' w' 1698 [(0, .ref b), (1, .ref (adX 0)), (2, .ref (adM 0)), (3, .int x3)] []) : jl_J p l e room_1 s m args below meth c D cI cJ adX adM A kc ks Q v w 486 [(0, .ref b), (1, .ref (adX 0)), (2, .ref (adM 0)), (3, .int x3)] [] := by
  unfold g_6 at hF
  refine jl_aload_n E dL_law_486 1 rfl ?_
  refine jl_aload_n E dL_law_487 0 rfl ?_
  refine jl_iload_n E dL_law_488 3 rfl ?_
  refine jl_iconst (x := 1) E dL_law_489 (by decide) ?_
  refine jl_iadd E dL_law_490 ?_
  refine jl_sld E dL_law_491 h1 ?_
  refine jl_aload_n E dL_law_492 0 rfl ?_
  refine jl_iload_n E dL_law_493 3 rfl ?_
  refine jl_iconst (x := 2) E dL_law_494 (by decide) ?_
  refine jl_iadd E dL_law_495 ?_
  refine jl_sld E dL_law_496 h2 ?_
  obtain ⟨⟨r1, v1⟩, hc1, hF⟩ := jx_bind hF
  try dsimp only at hF
  refine jl_callX (As := [.int (xs (x3 + 1).toNatClampNeg), .int (xs (x3 + 2).toNatClampNeg)]) (st := []) E dL_law_497 2 rfl (k_X4_windowOf (jl_inj E.2.2.2.2.2.2.2.2.2.1) (xs (x3 + 1).toNatClampNeg) (xs (x3 + 2).toNatClampNeg) v r1 v1 hc1) (gl_V tw_684 tw_685 tw_686 tw_190 tw_687) rfl rfl dd_X4_windowOf rfl ⟨by decide, by decide⟩ hf (Nat.le_of_ble_eq_true rfl) ?_
  refine jl_pop E dL_law_500 rfl ?_
  refine jl_aload_n E dL_law_501 2 rfl ?_
  refine jl_aload_n E dL_law_502 0 rfl ?_
  refine jl_iload_n E dL_law_503 3 rfl ?_
  refine jl_iconst (x := 1) E dL_law_504 (by decide) ?_
  refine jl_iadd E dL_law_505 ?_
  refine jl_sld E dL_law_506 h1 ?_
  refine jl_aload_n E dL_law_507 0 rfl ?_
  refine jl_iload_n E dL_law_508 3 rfl ?_
  refine jl_iconst (x := 2) E dL_law_509 (by decide) ?_
  refine jl_iadd E dL_law_510 ?_
  refine jl_sld E dL_law_511 h2 ?_
  obtain ⟨⟨r2, w2⟩, hc2, hF⟩ := jx_bind hF
  try dsimp only at hF
  refine jl_callM (As := [.int (xs (x3 + 1).toNatClampNeg), .int (xs (x3 + 2).toNatClampNeg)]) (st := []) E dL_law_512 2 rfl (k_X5_windowOf (jl_inj E.2.2.2.2.2.2.2.2.2.2.1) (xs (x3 + 1).toNatClampNeg) (xs (x3 + 2).toNatClampNeg) w r2 w2 hc2) (gl_V tw_688 tw_689 tw_690 tw_325 tw_691) rfl rfl dd_X5_windowOf rfl ⟨by decide, by decide⟩ hf (Nat.le_of_ble_eq_true rfl) ?_
  refine jl_pop E dL_law_515 rfl ?_
  refine jl_goto (tgt := 1698) E dL_law_516 (by decide) ?_
  obtain ⟨rfl, rfl⟩ := jx_out hF
  exact kend
def g_7 (a1 a2 a3 a4 a5 : Int32) (v w : jx_V) : Option (jx_V × jx_V) := ((f_X4_turn a1 a2 a3 v).bind (fun (r1, v1) => ((f_X5_turn a1 a2 a3 w).bind (fun (r2, w2) => (some (v1, w2))))))
set_option maxHeartbeats 4000000 in
set_option maxRecDepth 100000 in
theorem lc_7 {p : Program} {l : Launch} {e : Env} {s : State} {m : MethodId} {args : Array Value} {below : List Frame} {meth : Method} {c : Code} {Q : State → Prop} {D : va_G} {cI cJ : ClassId} {adX adM adK adV : Nat → Nat} {A : Nat → Prop} {kc ks b L : Nat} {xs : Nat → Int32} (E : jl_E p s m args c D cI cJ adX adM adK adV A b L xs) (x3 : Int32) (h1 : vp_in (x3 + 1) L) (h2 : vp_in (x3 + 2) L) (h3 : vp_in (x3 + 3) L) (h4 : vp_in (x3 + 4) L) (h5 : vp_in (x3 + 5) L) (v w v' w' : jx_V) (hf : kc ≤ room_1.cells ∧ ks ≤ room_1.slots) (hF : g_7 (xs (x3 + 1).toNatClampNeg) (xs (x3 + 2).toNatClampNeg) (xs (x3 + 3).toNatClampNeg) (xs (x3 + 4).toNatClampNeg) (xs (x3 + 5).toNatClampNeg) v w = some (v', w')) (kend : jl_J p l e room_1 s m args below meth c D cI cJ adX adM A kc ks Q v' w' 1698 [(0, .ref b), (1, .ref (adX 0)), (2, .ref (adM 0)), (3, .int x3)] []) : jl_J p l e room_1 s m args below meth c D cI cJ adX adM A kc ks Q v w 519 [(0, .ref b), (1, .ref (adX 0)), (2, .ref (adM 0)), (3, .int x3)] [] := by
  unfold g_7 at hF
  refine jl_aload_n E dL_law_519 1 rfl ?_
  refine jl_aload_n E dL_law_520 0 rfl ?_
  refine jl_iload_n E dL_law_521 3 rfl ?_
  refine jl_iconst (x := 1) E dL_law_522 (by decide) ?_
  refine jl_iadd E dL_law_523 ?_
  refine jl_sld E dL_law_524 h1 ?_
  refine jl_aload_n E dL_law_525 0 rfl ?_
  refine jl_iload_n E dL_law_526 3 rfl ?_
  refine jl_iconst (x := 2) E dL_law_527 (by decide) ?_
  refine jl_iadd E dL_law_528 ?_
  refine jl_sld E dL_law_529 h2 ?_
  refine jl_aload_n E dL_law_530 0 rfl ?_
  refine jl_iload_n E dL_law_531 3 rfl ?_
  refine jl_iconst (x := 3) E dL_law_532 (by decide) ?_
  refine jl_iadd E dL_law_533 ?_
  refine jl_sld E dL_law_534 h3 ?_
  obtain ⟨⟨r1, v1⟩, hc1, hF⟩ := jx_bind hF
  try dsimp only at hF
  refine jl_callX (As := [.int (xs (x3 + 1).toNatClampNeg), .int (xs (x3 + 2).toNatClampNeg), .int (xs (x3 + 3).toNatClampNeg)]) (st := []) E dL_law_535 3 rfl (k_X4_turn (jl_inj E.2.2.2.2.2.2.2.2.2.1) (xs (x3 + 1).toNatClampNeg) (xs (x3 + 2).toNatClampNeg) (xs (x3 + 3).toNatClampNeg) v r1 v1 hc1) (gl_V tw_692 tw_693 tw_694 tw_190 tw_695) rfl rfl dd_X4_turn rfl ⟨by decide, by decide⟩ hf (Nat.le_of_ble_eq_true rfl) ?_
  refine jl_pop E dL_law_538 rfl ?_
  refine jl_aload_n E dL_law_539 2 rfl ?_
  refine jl_aload_n E dL_law_540 0 rfl ?_
  refine jl_iload_n E dL_law_541 3 rfl ?_
  refine jl_iconst (x := 1) E dL_law_542 (by decide) ?_
  refine jl_iadd E dL_law_543 ?_
  refine jl_sld E dL_law_544 h1 ?_
  refine jl_aload_n E dL_law_545 0 rfl ?_
  refine jl_iload_n E dL_law_546 3 rfl ?_
  refine jl_iconst (x := 2) E dL_law_547 (by decide) ?_
  refine jl_iadd E dL_law_548 ?_
  refine jl_sld E dL_law_549 h2 ?_
  refine jl_aload_n E dL_law_550 0 rfl ?_
  refine jl_iload_n E dL_law_551 3 rfl ?_
  refine jl_iconst (x := 3) E dL_law_552 (by decide) ?_
  refine jl_iadd E dL_law_553 ?_
  refine jl_sld E dL_law_554 h3 ?_
  obtain ⟨⟨r2, w2⟩, hc2, hF⟩ := jx_bind hF
  try dsimp only at hF
  refine jl_callM (As := [.int (xs (x3 + 1).toNatClampNeg), .int (xs (x3 + 2).toNatClampNeg), .int (xs (x3 + 3).toNatClampNeg)]) (st := []) E dL_law_555 3 rfl (k_X5_turn (jl_inj E.2.2.2.2.2.2.2.2.2.2.1) (xs (x3 + 1).toNatClampNeg) (xs (x3 + 2).toNatClampNeg) (xs (x3 + 3).toNatClampNeg) w r2 w2 hc2) (gl_V tw_696 tw_697 tw_698 tw_325 tw_699) rfl rfl dd_X5_turn rfl ⟨by decide, by decide⟩ hf (Nat.le_of_ble_eq_true rfl) ?_
  refine jl_pop E dL_law_558 rfl ?_
  refine jl_goto (tgt := 1698) E dL_law_559 (by decide) ?_
  obtain ⟨rfl, rfl⟩ := jx_out hF
  exact kend
def g_8 (a1 a2 a3 a4 a5 : Int32) (v w : jx_V) : Option (jx_V × jx_V) := ((f_X4_contract a1 a2 a3 v).bind (fun (r1, v1) => ((f_X5_contract a1 a2 a3 w).bind (fun (r2, w2) => (some (v1, w2))))))
set_option maxHeartbeats 4000000 in
set_option maxRecDepth 100000 in
theorem lc_8 {p : Program} {l : Launch} {e : Env} {s : State} {m : MethodId} {args : Array Value} {below : List Frame} {meth : Method} {c : Code} {Q : State → Prop} {D : va_G} {cI cJ : ClassId} {adX adM adK adV : Nat → Nat} {A : Nat → Prop} {kc ks b L : Nat} {xs : Nat → Int32} (E : jl_E p s m args c D cI cJ adX adM adK adV A b L xs) (x3 : Int32) (h1 : vp_in (x3 + 1) L) (h2 : vp_in (x3 + 2) L) (h3 : vp_in (x3 + 3) L) (h4 : vp_in (x3 + 4) L) (h5 : vp_in (x3 + 5) L) (v w v' w' : jx_V) (hf : kc ≤ room_1.cells ∧ ks ≤ room_1.slots) (hF : g_8 (xs (x3 + 1).toNatClampNeg) (xs (x3 + 2).toNatClampNeg) (xs (x3 + 3).toNatClampNeg) (xs (x3 + 4).toNatClampNeg) (xs (x3 + 5).toNatClampNeg) v w = some (v', w')) (kend : jl_J p l e room_1 s m args below meth c D cI cJ adX adM A kc ks Q v' w' 1698 [(0, .ref b), (1, .ref (adX 0)), (2, .ref (adM 0)), (3, .int x3)] []) : jl_J p l e room_1 s m args below meth c D cI cJ adX adM A kc ks Q v w 562 [(0, .ref b), (1, .ref (adX 0)), (2, .ref (adM 0)), (3, .int x3)] [] := by
  unfold g_8 at hF
  refine jl_aload_n E dL_law_562 1 rfl ?_
  refine jl_aload_n E dL_law_563 0 rfl ?_
  refine jl_iload_n E dL_law_564 3 rfl ?_
  refine jl_iconst (x := 1) E dL_law_565 (by decide) ?_
  refine jl_iadd E dL_law_566 ?_
  refine jl_sld E dL_law_567 h1 ?_
  refine jl_aload_n E dL_law_568 0 rfl ?_
  refine jl_iload_n E dL_law_569 3 rfl ?_
  refine jl_iconst (x := 2) E dL_law_570 (by decide) ?_
  refine jl_iadd E dL_law_571 ?_
  refine jl_sld E dL_law_572 h2 ?_
  refine jl_aload_n E dL_law_573 0 rfl ?_
  refine jl_iload_n E dL_law_574 3 rfl ?_
  refine jl_iconst (x := 3) E dL_law_575 (by decide) ?_
  refine jl_iadd E dL_law_576 ?_
  refine jl_sld E dL_law_577 h3 ?_
  obtain ⟨⟨r1, v1⟩, hc1, hF⟩ := jx_bind hF
  try dsimp only at hF
  refine jl_callX (As := [.int (xs (x3 + 1).toNatClampNeg), .int (xs (x3 + 2).toNatClampNeg), .int (xs (x3 + 3).toNatClampNeg)]) (st := []) E dL_law_578 3 rfl (k_X4_contract (jl_inj E.2.2.2.2.2.2.2.2.2.1) (xs (x3 + 1).toNatClampNeg) (xs (x3 + 2).toNatClampNeg) (xs (x3 + 3).toNatClampNeg) v r1 v1 hc1) (gl_V tw_700 tw_701 tw_702 tw_190 tw_703) rfl rfl dd_X4_contract rfl ⟨by decide, by decide⟩ hf (Nat.le_of_ble_eq_true rfl) ?_
  refine jl_pop E dL_law_581 rfl ?_
  refine jl_aload_n E dL_law_582 2 rfl ?_
  refine jl_aload_n E dL_law_583 0 rfl ?_
  refine jl_iload_n E dL_law_584 3 rfl ?_
  refine jl_iconst (x := 1) E dL_law_585 (by decide) ?_
  refine jl_iadd E dL_law_586 ?_
  refine jl_sld E dL_law_587 h1 ?_
  refine jl_aload_n E dL_law_588 0 rfl ?_
  refine jl_iload_n E dL_law_589 3 rfl ?_
  refine jl_iconst (x := 2) E dL_law_590 (by decide) ?_
  refine jl_iadd E dL_law_591 ?_
  refine jl_sld E dL_law_592 h2 ?_
  refine jl_aload_n E dL_law_593 0 rfl ?_
  refine jl_iload_n E dL_law_594 3 rfl ?_
  refine jl_iconst (x := 3) E dL_law_595 (by decide) ?_
  refine jl_iadd E dL_law_596 ?_
  refine jl_sld E dL_law_597 h3 ?_
  obtain ⟨⟨r2, w2⟩, hc2, hF⟩ := jx_bind hF
  try dsimp only at hF
  refine jl_callM (As := [.int (xs (x3 + 1).toNatClampNeg), .int (xs (x3 + 2).toNatClampNeg), .int (xs (x3 + 3).toNatClampNeg)]) (st := []) E dL_law_598 3 rfl (k_X5_contract (jl_inj E.2.2.2.2.2.2.2.2.2.2.1) (xs (x3 + 1).toNatClampNeg) (xs (x3 + 2).toNatClampNeg) (xs (x3 + 3).toNatClampNeg) w r2 w2 hc2) (gl_V tw_704 tw_705 tw_706 tw_325 tw_707) rfl rfl dd_X5_contract rfl ⟨by decide, by decide⟩ hf (Nat.le_of_ble_eq_true rfl) ?_
  refine jl_pop E dL_law_601 rfl ?_
  refine jl_goto (tgt := 1698) E dL_law_602 (by decide) ?_
  obtain ⟨rfl, rfl⟩ := jx_out hF
  exact kend
def g_9 (a1 a2 a3 a4 a5 : Int32) (v w : jx_V) : Option (jx_V × jx_V) := ((f_X4_purse a1 v).bind (fun (r1, v1) => ((f_X5_purse a1 w).bind (fun (r2, w2) => (some (v1, w2))))))
set_option maxHeartbeats 4000000 in
set_option maxRecDepth 100000 in
theorem lc_9 {p : Program} {l : Launch} {e : Env} {s : State} {m : MethodId} {args : Array Value} {below : List Frame} {meth : Method} {c : Code} {Q : State → Prop} {D : va_G} {cI cJ : ClassId} {adX adM adK adV : Nat → Nat} {A : Nat → Prop} {kc ks b L : Nat} {xs : Nat → Int32} (E : jl_E p s m args c D cI cJ adX adM adK adV A b L xs) (x3 : Int32) (h1 : vp_in (x3 + 1) L) (h2 : vp_in (x3 + 2) L) (h3 : vp_in (x3 + 3) L) (h4 : vp_in (x3 + 4) L) (h5 : vp_in (x3 + 5) L) (v w v' w' : jx_V) (hf : kc ≤ room_1.cells ∧ ks ≤ room_1.slots) (hF : g_9 (xs (x3 + 1).toNatClampNeg) (xs (x3 + 2).toNatClampNeg) (xs (x3 + 3).toNatClampNeg) (xs (x3 + 4).toNatClampNeg) (xs (x3 + 5).toNatClampNeg) v w = some (v', w')) (kend : jl_J p l e room_1 s m args below meth c D cI cJ adX adM A kc ks Q v' w' 1698 [(0, .ref b), (1, .ref (adX 0)), (2, .ref (adM 0)), (3, .int x3)] []) : jl_J p l e room_1 s m args below meth c D cI cJ adX adM A kc ks Q v w 605 [(0, .ref b), (1, .ref (adX 0)), (2, .ref (adM 0)), (3, .int x3)] [] := by
  unfold g_9 at hF
  refine jl_aload_n E dL_law_605 1 rfl ?_
  refine jl_aload_n E dL_law_606 0 rfl ?_
  refine jl_iload_n E dL_law_607 3 rfl ?_
  refine jl_iconst (x := 1) E dL_law_608 (by decide) ?_
  refine jl_iadd E dL_law_609 ?_
  refine jl_sld E dL_law_610 h1 ?_
  obtain ⟨⟨r1, v1⟩, hc1, hF⟩ := jx_bind hF
  try dsimp only at hF
  refine jl_callX (As := [.int (xs (x3 + 1).toNatClampNeg)]) (st := []) E dL_law_611 1 rfl (k_X4_purse (jl_inj E.2.2.2.2.2.2.2.2.2.1) (xs (x3 + 1).toNatClampNeg) v r1 v1 hc1) (gl_V tw_708 tw_709 tw_710 tw_190 tw_711) rfl rfl dd_X4_purse rfl ⟨by decide, by decide⟩ hf (Nat.le_of_ble_eq_true rfl) ?_
  refine jl_pop E dL_law_614 rfl ?_
  refine jl_aload_n E dL_law_615 2 rfl ?_
  refine jl_aload_n E dL_law_616 0 rfl ?_
  refine jl_iload_n E dL_law_617 3 rfl ?_
  refine jl_iconst (x := 1) E dL_law_618 (by decide) ?_
  refine jl_iadd E dL_law_619 ?_
  refine jl_sld E dL_law_620 h1 ?_
  obtain ⟨⟨r2, w2⟩, hc2, hF⟩ := jx_bind hF
  try dsimp only at hF
  refine jl_callM (As := [.int (xs (x3 + 1).toNatClampNeg)]) (st := []) E dL_law_621 1 rfl (k_X5_purse (jl_inj E.2.2.2.2.2.2.2.2.2.2.1) (xs (x3 + 1).toNatClampNeg) w r2 w2 hc2) (gl_V tw_712 tw_713 tw_714 tw_325 tw_715) rfl rfl dd_X5_purse rfl ⟨by decide, by decide⟩ hf (Nat.le_of_ble_eq_true rfl) ?_
  refine jl_pop E dL_law_624 rfl ?_
  refine jl_goto (tgt := 1698) E dL_law_625 (by decide) ?_
  obtain ⟨rfl, rfl⟩ := jx_out hF
  exact kend
def g_10 (a1 a2 a3 a4 a5 : Int32) (v w : jx_V) : Option (jx_V × jx_V) := ((f_X4_sees a1 a2 v).bind (fun (r1, v1) => ((f_X5_sees a1 a2 w).bind (fun (r2, w2) => (some (v1, w2))))))
set_option maxHeartbeats 4000000 in
set_option maxRecDepth 100000 in
theorem lc_10 {p : Program} {l : Launch} {e : Env} {s : State} {m : MethodId} {args : Array Value} {below : List Frame} {meth : Method} {c : Code} {Q : State → Prop} {D : va_G} {cI cJ : ClassId} {adX adM adK adV : Nat → Nat} {A : Nat → Prop} {kc ks b L : Nat} {xs : Nat → Int32} (E : jl_E p s m args c D cI cJ adX adM adK adV A b L xs) (x3 : Int32) (h1 : vp_in (x3 + 1) L) (h2 : vp_in (x3 + 2) L) (h3 : vp_in (x3 + 3) L) (h4 : vp_in (x3 + 4) L) (h5 : vp_in (x3 + 5) L) (v w v' w' : jx_V) (hf : kc ≤ room_1.cells ∧ ks ≤ room_1.slots) (hF : g_10 (xs (x3 + 1).toNatClampNeg) (xs (x3 + 2).toNatClampNeg) (xs (x3 + 3).toNatClampNeg) (xs (x3 + 4).toNatClampNeg) (xs (x3 + 5).toNatClampNeg) v w = some (v', w')) (kend : jl_J p l e room_1 s m args below meth c D cI cJ adX adM A kc ks Q v' w' 1698 [(0, .ref b), (1, .ref (adX 0)), (2, .ref (adM 0)), (3, .int x3)] []) : jl_J p l e room_1 s m args below meth c D cI cJ adX adM A kc ks Q v w 628 [(0, .ref b), (1, .ref (adX 0)), (2, .ref (adM 0)), (3, .int x3)] [] := by
  unfold g_10 at hF
  refine jl_aload_n E dL_law_628 1 rfl ?_
  refine jl_aload_n E dL_law_629 0 rfl ?_
  refine jl_iload_n E dL_law_630 3 rfl ?_
  refine jl_iconst (x := 1) E dL_law_631 (by decide) ?_
  refine jl_iadd E dL_law_632 ?_
  refine jl_sld E dL_law_633 h1 ?_
  refine jl_aload_n E dL_law_634 0 rfl ?_
  refine jl_iload_n E dL_law_635 3 rfl ?_
  refine jl_iconst (x := 2) E dL_law_636 (by decide) ?_
  refine jl_iadd E dL_law_637 ?_
  refine jl_sld E dL_law_638 h2 ?_
  obtain ⟨⟨r1, v1⟩, hc1, hF⟩ := jx_bind hF
  try dsimp only at hF
  refine jl_callX (As := [.int (xs (x3 + 1).toNatClampNeg), .int (xs (x3 + 2).toNatClampNeg)]) (st := []) E dL_law_639 2 rfl (k_X4_sees (jl_inj E.2.2.2.2.2.2.2.2.2.1) (xs (x3 + 1).toNatClampNeg) (xs (x3 + 2).toNatClampNeg) v r1 v1 hc1) (gl_V tw_716 tw_717 tw_718 tw_190 tw_719) rfl rfl dd_X4_sees rfl ⟨by decide, by decide⟩ hf (Nat.le_of_ble_eq_true rfl) ?_
  refine jl_pop E dL_law_642 rfl ?_
  refine jl_aload_n E dL_law_643 2 rfl ?_
  refine jl_aload_n E dL_law_644 0 rfl ?_
  refine jl_iload_n E dL_law_645 3 rfl ?_
  refine jl_iconst (x := 1) E dL_law_646 (by decide) ?_
  refine jl_iadd E dL_law_647 ?_
  refine jl_sld E dL_law_648 h1 ?_
  refine jl_aload_n E dL_law_649 0 rfl ?_
  refine jl_iload_n E dL_law_650 3 rfl ?_
  refine jl_iconst (x := 2) E dL_law_651 (by decide) ?_
  refine jl_iadd E dL_law_652 ?_
  refine jl_sld E dL_law_653 h2 ?_
  obtain ⟨⟨r2, w2⟩, hc2, hF⟩ := jx_bind hF
  try dsimp only at hF
  refine jl_callM (As := [.int (xs (x3 + 1).toNatClampNeg), .int (xs (x3 + 2).toNatClampNeg)]) (st := []) E dL_law_654 2 rfl (k_X5_sees (jl_inj E.2.2.2.2.2.2.2.2.2.2.1) (xs (x3 + 1).toNatClampNeg) (xs (x3 + 2).toNatClampNeg) w r2 w2 hc2) (gl_V tw_720 tw_721 tw_722 tw_325 tw_723) rfl rfl dd_X5_sees rfl ⟨by decide, by decide⟩ hf (Nat.le_of_ble_eq_true rfl) ?_
  refine jl_pop E dL_law_657 rfl ?_
  refine jl_goto (tgt := 1698) E dL_law_658 (by decide) ?_
  obtain ⟨rfl, rfl⟩ := jx_out hF
  exact kend
def g_11 (a1 a2 a3 a4 a5 : Int32) (v w : jx_V) : Option (jx_V × jx_V) := ((f_X4_view a1 v).bind (fun (r1, v1) => ((f_X5_view a1 w).bind (fun (r2, w2) => (some (v1, w2))))))
set_option maxHeartbeats 4000000 in
set_option maxRecDepth 100000 in
theorem lc_11 {p : Program} {l : Launch} {e : Env} {s : State} {m : MethodId} {args : Array Value} {below : List Frame} {meth : Method} {c : Code} {Q : State → Prop} {D : va_G} {cI cJ : ClassId} {adX adM adK adV : Nat → Nat} {A : Nat → Prop} {kc ks b L : Nat} {xs : Nat → Int32} (E : jl_E p s m args c D cI cJ adX adM adK adV A b L xs) (x3 : Int32) (h1 : vp_in (x3 + 1) L) (h2 : vp_in (x3 + 2) L) (h3 : vp_in (x3 + 3) L) (h4 : vp_in (x3 + 4) L) (h5 : vp_in (x3 + 5) L) (v w v' w' : jx_V) (hf : kc ≤ room_1.cells ∧ ks ≤ room_1.slots) (hF : g_11 (xs (x3 + 1).toNatClampNeg) (xs (x3 + 2).toNatClampNeg) (xs (x3 + 3).toNatClampNeg) (xs (x3 + 4).toNatClampNeg) (xs (x3 + 5).toNatClampNeg) v w = some (v', w')) (kend : jl_J p l e room_1 s m args below meth c D cI cJ adX adM A kc ks Q v' w' 1698 [(0, .ref b), (1, .ref (adX 0)), (2, .ref (adM 0)), (3, .int x3)] []) : jl_J p l e room_1 s m args below meth c D cI cJ adX adM A kc ks Q v w 661 [(0, .ref b), (1, .ref (adX 0)), (2, .ref (adM 0)), (3, .int x3)] [] := by
  unfold g_11 at hF
  refine jl_aload_n E dL_law_661 1 rfl ?_
  refine jl_aload_n E dL_law_662 0 rfl ?_
  refine jl_iload_n E dL_law_663 3 rfl ?_
  refine jl_iconst (x := 1) E dL_law_664 (by decide) ?_
  refine jl_iadd E dL_law_665 ?_
  refine jl_sld E dL_law_666 h1 ?_
  obtain ⟨⟨r1, v1⟩, hc1, hF⟩ := jx_bind hF
  try dsimp only at hF
  refine jl_callX (As := [.int (xs (x3 + 1).toNatClampNeg)]) (st := []) E dL_law_667 1 rfl (k_X4_view (jl_inj E.2.2.2.2.2.2.2.2.2.1) (xs (x3 + 1).toNatClampNeg) v r1 v1 hc1) (gl_V tw_724 tw_725 tw_726 tw_190 tw_727) rfl rfl dd_X4_view rfl ⟨by decide, by decide⟩ hf (Nat.le_of_ble_eq_true rfl) ?_
  refine jl_pop E dL_law_670 rfl ?_
  refine jl_aload_n E dL_law_671 2 rfl ?_
  refine jl_aload_n E dL_law_672 0 rfl ?_
  refine jl_iload_n E dL_law_673 3 rfl ?_
  refine jl_iconst (x := 1) E dL_law_674 (by decide) ?_
  refine jl_iadd E dL_law_675 ?_
  refine jl_sld E dL_law_676 h1 ?_
  obtain ⟨⟨r2, w2⟩, hc2, hF⟩ := jx_bind hF
  try dsimp only at hF
  refine jl_callM (As := [.int (xs (x3 + 1).toNatClampNeg)]) (st := []) E dL_law_677 1 rfl (k_X5_view (jl_inj E.2.2.2.2.2.2.2.2.2.2.1) (xs (x3 + 1).toNatClampNeg) w r2 w2 hc2) (gl_V tw_728 tw_729 tw_730 tw_325 tw_731) rfl rfl dd_X5_view rfl ⟨by decide, by decide⟩ hf (Nat.le_of_ble_eq_true rfl) ?_
  refine jl_pop E dL_law_680 rfl ?_
  refine jl_goto (tgt := 1698) E dL_law_681 (by decide) ?_
  obtain ⟨rfl, rfl⟩ := jx_out hF
  exact kend
def g_12 (a1 a2 a3 a4 a5 : Int32) (v w : jx_V) : Option (jx_V × jx_V) := ((f_X4_share a1 a2 v).bind (fun (r1, v1) => ((f_X5_share a1 a2 w).bind (fun (r2, w2) => (some (v1, w2))))))
set_option maxHeartbeats 4000000 in
set_option maxRecDepth 100000 in
theorem lc_12 {p : Program} {l : Launch} {e : Env} {s : State} {m : MethodId} {args : Array Value} {below : List Frame} {meth : Method} {c : Code} {Q : State → Prop} {D : va_G} {cI cJ : ClassId} {adX adM adK adV : Nat → Nat} {A : Nat → Prop} {kc ks b L : Nat} {xs : Nat → Int32} (E : jl_E p s m args c D cI cJ adX adM adK adV A b L xs) (x3 : Int32) (h1 : vp_in (x3 + 1) L) (h2 : vp_in (x3 + 2) L) (h3 : vp_in (x3 + 3) L) (h4 : vp_in (x3 + 4) L) (h5 : vp_in (x3 + 5) L) (v w v' w' : jx_V) (hf : kc ≤ room_1.cells ∧ ks ≤ room_1.slots) (hF : g_12 (xs (x3 + 1).toNatClampNeg) (xs (x3 + 2).toNatClampNeg) (xs (x3 + 3).toNatClampNeg) (xs (x3 + 4).toNatClampNeg) (xs (x3 + 5).toNatClampNeg) v w = some (v', w')) (kend : jl_J p l e room_1 s m args below meth c D cI cJ adX adM A kc ks Q v' w' 1698 [(0, .ref b), (1, .ref (adX 0)), (2, .ref (adM 0)), (3, .int x3)] []) : jl_J p l e room_1 s m args below meth c D cI cJ adX adM A kc ks Q v w 684 [(0, .ref b), (1, .ref (adX 0)), (2, .ref (adM 0)), (3, .int x3)] [] := by
  unfold g_12 at hF
  refine jl_aload_n E dL_law_684 1 rfl ?_
  refine jl_aload_n E dL_law_685 0 rfl ?_
  refine jl_iload_n E dL_law_686 3 rfl ?_
  refine jl_iconst (x := 1) E dL_law_687 (by decide) ?_
  refine jl_iadd E dL_law_688 ?_
  refine jl_sld E dL_law_689 h1 ?_
  refine jl_aload_n E dL_law_690 0 rfl ?_
  refine jl_iload_n E dL_law_691 3 rfl ?_
  refine jl_iconst (x := 2) E dL_law_692 (by decide) ?_
  refine jl_iadd E dL_law_693 ?_
  refine jl_sld E dL_law_694 h2 ?_
  obtain ⟨⟨r1, v1⟩, hc1, hF⟩ := jx_bind hF
  try dsimp only at hF
  refine jl_callX (As := [.int (xs (x3 + 1).toNatClampNeg), .int (xs (x3 + 2).toNatClampNeg)]) (st := []) E dL_law_695 2 rfl (k_X4_share (jl_inj E.2.2.2.2.2.2.2.2.2.1) (xs (x3 + 1).toNatClampNeg) (xs (x3 + 2).toNatClampNeg) v r1 v1 hc1) (gl_V tw_732 tw_733 tw_734 tw_190 tw_735) rfl rfl dd_X4_share rfl ⟨by decide, by decide⟩ hf (Nat.le_of_ble_eq_true rfl) ?_
  refine jl_pop E dL_law_698 rfl ?_
  refine jl_aload_n E dL_law_699 2 rfl ?_
  refine jl_aload_n E dL_law_700 0 rfl ?_
  refine jl_iload_n E dL_law_701 3 rfl ?_
  refine jl_iconst (x := 1) E dL_law_702 (by decide) ?_
  refine jl_iadd E dL_law_703 ?_
  refine jl_sld E dL_law_704 h1 ?_
  refine jl_aload_n E dL_law_705 0 rfl ?_
  refine jl_iload_n E dL_law_706 3 rfl ?_
  refine jl_iconst (x := 2) E dL_law_707 (by decide) ?_
  refine jl_iadd E dL_law_708 ?_
  refine jl_sld E dL_law_709 h2 ?_
  obtain ⟨⟨r2, w2⟩, hc2, hF⟩ := jx_bind hF
  try dsimp only at hF
  refine jl_callM (As := [.int (xs (x3 + 1).toNatClampNeg), .int (xs (x3 + 2).toNatClampNeg)]) (st := []) E dL_law_710 2 rfl (k_X5_share (jl_inj E.2.2.2.2.2.2.2.2.2.2.1) (xs (x3 + 1).toNatClampNeg) (xs (x3 + 2).toNatClampNeg) w r2 w2 hc2) (gl_V tw_736 tw_737 tw_738 tw_325 tw_739) rfl rfl dd_X5_share rfl ⟨by decide, by decide⟩ hf (Nat.le_of_ble_eq_true rfl) ?_
  refine jl_pop E dL_law_713 rfl ?_
  refine jl_goto (tgt := 1698) E dL_law_714 (by decide) ?_
  obtain ⟨rfl, rfl⟩ := jx_out hF
  exact kend
def g_13 (a1 a2 a3 a4 a5 : Int32) (v w : jx_V) : Option (jx_V × jx_V) := ((f_X4_lots a1 v).bind (fun (r1, v1) => ((f_X5_lots a1 w).bind (fun (r2, w2) => (some (v1, w2))))))
set_option maxHeartbeats 4000000 in
set_option maxRecDepth 100000 in
theorem lc_13 {p : Program} {l : Launch} {e : Env} {s : State} {m : MethodId} {args : Array Value} {below : List Frame} {meth : Method} {c : Code} {Q : State → Prop} {D : va_G} {cI cJ : ClassId} {adX adM adK adV : Nat → Nat} {A : Nat → Prop} {kc ks b L : Nat} {xs : Nat → Int32} (E : jl_E p s m args c D cI cJ adX adM adK adV A b L xs) (x3 : Int32) (h1 : vp_in (x3 + 1) L) (h2 : vp_in (x3 + 2) L) (h3 : vp_in (x3 + 3) L) (h4 : vp_in (x3 + 4) L) (h5 : vp_in (x3 + 5) L) (v w v' w' : jx_V) (hf : kc ≤ room_1.cells ∧ ks ≤ room_1.slots) (hF : g_13 (xs (x3 + 1).toNatClampNeg) (xs (x3 + 2).toNatClampNeg) (xs (x3 + 3).toNatClampNeg) (xs (x3 + 4).toNatClampNeg) (xs (x3 + 5).toNatClampNeg) v w = some (v', w')) (kend : jl_J p l e room_1 s m args below meth c D cI cJ adX adM A kc ks Q v' w' 1698 [(0, .ref b), (1, .ref (adX 0)), (2, .ref (adM 0)), (3, .int x3)] []) : jl_J p l e room_1 s m args below meth c D cI cJ adX adM A kc ks Q v w 717 [(0, .ref b), (1, .ref (adX 0)), (2, .ref (adM 0)), (3, .int x3)] [] := by
  unfold g_13 at hF
  refine jl_aload_n E dL_law_717 1 rfl ?_
  refine jl_aload_n E dL_law_718 0 rfl ?_
  refine jl_iload_n E dL_law_719 3 rfl ?_
  refine jl_iconst (x := 1) E dL_law_720 (by decide) ?_
  refine jl_iadd E dL_law_721 ?_
  refine jl_sld E dL_law_722 h1 ?_
  obtain ⟨⟨r1, v1⟩, hc1, hF⟩ := jx_bind hF
  try dsimp only at hF
  refine jl_callX (As := [.int (xs (x3 + 1).toNatClampNeg)]) (st := []) E dL_law_723 1 rfl (k_X4_lots (jl_inj E.2.2.2.2.2.2.2.2.2.1) (xs (x3 + 1).toNatClampNeg) v r1 v1 hc1) (gl_V tw_740 tw_741 tw_742 tw_190 tw_743) rfl rfl dd_X4_lots rfl ⟨by decide, by decide⟩ hf (Nat.le_of_ble_eq_true rfl) ?_
  refine jl_pop E dL_law_726 rfl ?_
  refine jl_aload_n E dL_law_727 2 rfl ?_
  refine jl_aload_n E dL_law_728 0 rfl ?_
  refine jl_iload_n E dL_law_729 3 rfl ?_
  refine jl_iconst (x := 1) E dL_law_730 (by decide) ?_
  refine jl_iadd E dL_law_731 ?_
  refine jl_sld E dL_law_732 h1 ?_
  obtain ⟨⟨r2, w2⟩, hc2, hF⟩ := jx_bind hF
  try dsimp only at hF
  refine jl_callM (As := [.int (xs (x3 + 1).toNatClampNeg)]) (st := []) E dL_law_733 1 rfl (k_X5_lots (jl_inj E.2.2.2.2.2.2.2.2.2.2.1) (xs (x3 + 1).toNatClampNeg) w r2 w2 hc2) (gl_V tw_744 tw_745 tw_746 tw_325 tw_747) rfl rfl dd_X5_lots rfl ⟨by decide, by decide⟩ hf (Nat.le_of_ble_eq_true rfl) ?_
  refine jl_pop E dL_law_736 rfl ?_
  refine jl_goto (tgt := 1698) E dL_law_737 (by decide) ?_
  obtain ⟨rfl, rfl⟩ := jx_out hF
  exact kend
def g_14 (a1 a2 a3 a4 a5 : Int32) (v w : jx_V) : Option (jx_V × jx_V) := ((f_X4_watched a1 v).bind (fun (r1, v1) => ((f_X5_watched a1 w).bind (fun (r2, w2) => (some (v1, w2))))))
set_option maxHeartbeats 4000000 in
set_option maxRecDepth 100000 in
theorem lc_14 {p : Program} {l : Launch} {e : Env} {s : State} {m : MethodId} {args : Array Value} {below : List Frame} {meth : Method} {c : Code} {Q : State → Prop} {D : va_G} {cI cJ : ClassId} {adX adM adK adV : Nat → Nat} {A : Nat → Prop} {kc ks b L : Nat} {xs : Nat → Int32} (E : jl_E p s m args c D cI cJ adX adM adK adV A b L xs) (x3 : Int32) (h1 : vp_in (x3 + 1) L) (h2 : vp_in (x3 + 2) L) (h3 : vp_in (x3 + 3) L) (h4 : vp_in (x3 + 4) L) (h5 : vp_in (x3 + 5) L) (v w v' w' : jx_V) (hf : kc ≤ room_1.cells ∧ ks ≤ room_1.slots) (hF : g_14 (xs (x3 + 1).toNatClampNeg) (xs (x3 + 2).toNatClampNeg) (xs (x3 + 3).toNatClampNeg) (xs (x3 + 4).toNatClampNeg) (xs (x3 + 5).toNatClampNeg) v w = some (v', w')) (kend : jl_J p l e room_1 s m args below meth c D cI cJ adX adM A kc ks Q v' w' 1698 [(0, .ref b), (1, .ref (adX 0)), (2, .ref (adM 0)), (3, .int x3)] []) : jl_J p l e room_1 s m args below meth c D cI cJ adX adM A kc ks Q v w 740 [(0, .ref b), (1, .ref (adX 0)), (2, .ref (adM 0)), (3, .int x3)] [] := by
  unfold g_14 at hF
  refine jl_aload_n E dL_law_740 1 rfl ?_
  refine jl_aload_n E dL_law_741 0 rfl ?_
  refine jl_iload_n E dL_law_742 3 rfl ?_
  refine jl_iconst (x := 1) E dL_law_743 (by decide) ?_
  refine jl_iadd E dL_law_744 ?_
  refine jl_sld E dL_law_745 h1 ?_
  obtain ⟨⟨r1, v1⟩, hc1, hF⟩ := jx_bind hF
  try dsimp only at hF
  refine jl_callX (As := [.int (xs (x3 + 1).toNatClampNeg)]) (st := []) E dL_law_746 1 rfl (k_X4_watched (jl_inj E.2.2.2.2.2.2.2.2.2.1) (xs (x3 + 1).toNatClampNeg) v r1 v1 hc1) (gl_V tw_748 tw_749 tw_750 tw_190 tw_751) rfl rfl dd_X4_watched rfl ⟨by decide, by decide⟩ hf (Nat.le_of_ble_eq_true rfl) ?_
  refine jl_pop E dL_law_749 rfl ?_
  refine jl_aload_n E dL_law_750 2 rfl ?_
  refine jl_aload_n E dL_law_751 0 rfl ?_
  refine jl_iload_n E dL_law_752 3 rfl ?_
  refine jl_iconst (x := 1) E dL_law_753 (by decide) ?_
  refine jl_iadd E dL_law_754 ?_
  refine jl_sld E dL_law_755 h1 ?_
  obtain ⟨⟨r2, w2⟩, hc2, hF⟩ := jx_bind hF
  try dsimp only at hF
  refine jl_callM (As := [.int (xs (x3 + 1).toNatClampNeg)]) (st := []) E dL_law_756 1 rfl (k_X5_watched (jl_inj E.2.2.2.2.2.2.2.2.2.2.1) (xs (x3 + 1).toNatClampNeg) w r2 w2 hc2) (gl_V tw_752 tw_753 tw_754 tw_325 tw_755) rfl rfl dd_X5_watched rfl ⟨by decide, by decide⟩ hf (Nat.le_of_ble_eq_true rfl) ?_
  refine jl_pop E dL_law_759 rfl ?_
  refine jl_goto (tgt := 1698) E dL_law_760 (by decide) ?_
  obtain ⟨rfl, rfl⟩ := jx_out hF
  exact kend
def g_15 (a1 a2 a3 a4 a5 : Int32) (v w : jx_V) : Option (jx_V × jx_V) := ((f_X4_rent a1 v).bind (fun (r1, v1) => ((f_X5_rent a1 w).bind (fun (r2, w2) => (some (v1, w2))))))
set_option maxHeartbeats 4000000 in
set_option maxRecDepth 100000 in
theorem lc_15 {p : Program} {l : Launch} {e : Env} {s : State} {m : MethodId} {args : Array Value} {below : List Frame} {meth : Method} {c : Code} {Q : State → Prop} {D : va_G} {cI cJ : ClassId} {adX adM adK adV : Nat → Nat} {A : Nat → Prop} {kc ks b L : Nat} {xs : Nat → Int32} (E : jl_E p s m args c D cI cJ adX adM adK adV A b L xs) (x3 : Int32) (h1 : vp_in (x3 + 1) L) (h2 : vp_in (x3 + 2) L) (h3 : vp_in (x3 + 3) L) (h4 : vp_in (x3 + 4) L) (h5 : vp_in (x3 + 5) L) (v w v' w' : jx_V) (hf : kc ≤ room_1.cells ∧ ks ≤ room_1.slots) (hF : g_15 (xs (x3 + 1).toNatClampNeg) (xs (x3 + 2).toNatClampNeg) (xs (x3 + 3).toNatClampNeg) (xs (x3 + 4).toNatClampNeg) (xs (x3 + 5).toNatClampNeg) v w = some (v', w')) (kend : jl_J p l e room_1 s m args below meth c D cI cJ adX adM A kc ks Q v' w' 1698 [(0, .ref b), (1, .ref (adX 0)), (2, .ref (adM 0)), (3, .int x3)] []) : jl_J p l e room_1 s m args below meth c D cI cJ adX adM A kc ks Q v w 763 [(0, .ref b), (1, .ref (adX 0)), (2, .ref (adM 0)), (3, .int x3)] [] := by
  unfold g_15 at hF
  refine jl_aload_n E dL_law_763 1 rfl ?_
  refine jl_aload_n E dL_law_764 0 rfl ?_
  refine jl_iload_n E dL_law_765 3 rfl ?_
  refine jl_iconst (x := 1) E dL_law_766 (by decide) ?_
  refine jl_iadd E dL_law_767 ?_
  refine jl_sld E dL_law_768 h1 ?_
  obtain ⟨⟨r1, v1⟩, hc1, hF⟩ := jx_bind hF
  try dsimp only at hF
  refine jl_callX (As := [.int (xs (x3 + 1).toNatClampNeg)]) (st := []) E dL_law_769 1 rfl (k_X4_rent (jl_inj E.2.2.2.2.2.2.2.2.2.1) (xs (x3 + 1).toNatClampNeg) v r1 v1 hc1) (gl_V tw_756 tw_757 tw_758 tw_190 tw_759) rfl rfl dd_X4_rent rfl ⟨by decide, by decide⟩ hf (Nat.le_of_ble_eq_true rfl) ?_
  refine jl_pop E dL_law_772 rfl ?_
  refine jl_aload_n E dL_law_773 2 rfl ?_
  refine jl_aload_n E dL_law_774 0 rfl ?_
  refine jl_iload_n E dL_law_775 3 rfl ?_
  refine jl_iconst (x := 1) E dL_law_776 (by decide) ?_
  refine jl_iadd E dL_law_777 ?_
  refine jl_sld E dL_law_778 h1 ?_
  obtain ⟨⟨r2, w2⟩, hc2, hF⟩ := jx_bind hF
  try dsimp only at hF
  refine jl_callM (As := [.int (xs (x3 + 1).toNatClampNeg)]) (st := []) E dL_law_779 1 rfl (k_X5_rent (jl_inj E.2.2.2.2.2.2.2.2.2.2.1) (xs (x3 + 1).toNatClampNeg) w r2 w2 hc2) (gl_V tw_760 tw_761 tw_762 tw_325 tw_763) rfl rfl dd_X5_rent rfl ⟨by decide, by decide⟩ hf (Nat.le_of_ble_eq_true rfl) ?_
  refine jl_pop E dL_law_782 rfl ?_
  refine jl_goto (tgt := 1698) E dL_law_783 (by decide) ?_
  obtain ⟨rfl, rfl⟩ := jx_out hF
  exact kend
def g_16 (a1 a2 a3 a4 a5 : Int32) (v w : jx_V) : Option (jx_V × jx_V) := ((f_X4_gain a1 v).bind (fun (r1, v1) => ((f_X5_gain a1 w).bind (fun (r2, w2) => (some (v1, w2))))))
set_option maxHeartbeats 4000000 in
set_option maxRecDepth 100000 in
theorem lc_16 {p : Program} {l : Launch} {e : Env} {s : State} {m : MethodId} {args : Array Value} {below : List Frame} {meth : Method} {c : Code} {Q : State → Prop} {D : va_G} {cI cJ : ClassId} {adX adM adK adV : Nat → Nat} {A : Nat → Prop} {kc ks b L : Nat} {xs : Nat → Int32} (E : jl_E p s m args c D cI cJ adX adM adK adV A b L xs) (x3 : Int32) (h1 : vp_in (x3 + 1) L) (h2 : vp_in (x3 + 2) L) (h3 : vp_in (x3 + 3) L) (h4 : vp_in (x3 + 4) L) (h5 : vp_in (x3 + 5) L) (v w v' w' : jx_V) (hf : kc ≤ room_1.cells ∧ ks ≤ room_1.slots) (hF : g_16 (xs (x3 + 1).toNatClampNeg) (xs (x3 + 2).toNatClampNeg) (xs (x3 + 3).toNatClampNeg) (xs (x3 + 4).toNatClampNeg) (xs (x3 + 5).toNatClampNeg) v w = some (v', w')) (kend : jl_J p l e room_1 s m args below meth c D cI cJ adX adM A kc ks Q v' w' 1698 [(0, .ref b), (1, .ref (adX 0)), (2, .ref (adM 0)), (3, .int x3)] []) : jl_J p l e room_1 s m args below meth c D cI cJ adX adM A kc ks Q v w 786 [(0, .ref b), (1, .ref (adX 0)), (2, .ref (adM 0)), (3, .int x3)] [] := by
  unfold g_16 at hF
  refine jl_aload_n E dL_law_786 1 rfl ?_
  refine jl_aload_n E dL_law_787 0 rfl ?_
  refine jl_iload_n E dL_law_788 3 rfl ?_
  refine jl_iconst (x := 1) E dL_law_789 (by decide) ?_
  refine jl_iadd E dL_law_790 ?_
  refine jl_sld E dL_law_791 h1 ?_
  obtain ⟨⟨r1, v1⟩, hc1, hF⟩ := jx_bind hF
  try dsimp only at hF
  refine jl_callX (As := [.int (xs (x3 + 1).toNatClampNeg)]) (st := []) E dL_law_792 1 rfl (k_X4_gain (jl_inj E.2.2.2.2.2.2.2.2.2.1) (xs (x3 + 1).toNatClampNeg) v r1 v1 hc1) (gl_V tw_764 tw_765 tw_766 tw_190 tw_767) rfl rfl dd_X4_gain rfl ⟨by decide, by decide⟩ hf (Nat.le_of_ble_eq_true rfl) ?_
  refine jl_pop E dL_law_795 rfl ?_
  refine jl_aload_n E dL_law_796 2 rfl ?_
  refine jl_aload_n E dL_law_797 0 rfl ?_
  refine jl_iload_n E dL_law_798 3 rfl ?_
  refine jl_iconst (x := 1) E dL_law_799 (by decide) ?_
  refine jl_iadd E dL_law_800 ?_
  refine jl_sld E dL_law_801 h1 ?_
  obtain ⟨⟨r2, w2⟩, hc2, hF⟩ := jx_bind hF
  try dsimp only at hF
  refine jl_callM (As := [.int (xs (x3 + 1).toNatClampNeg)]) (st := []) E dL_law_802 1 rfl (k_X5_gain (jl_inj E.2.2.2.2.2.2.2.2.2.2.1) (xs (x3 + 1).toNatClampNeg) w r2 w2 hc2) (gl_V tw_768 tw_769 tw_770 tw_325 tw_771) rfl rfl dd_X5_gain rfl ⟨by decide, by decide⟩ hf (Nat.le_of_ble_eq_true rfl) ?_
  refine jl_pop E dL_law_805 rfl ?_
  refine jl_goto (tgt := 1698) E dL_law_806 (by decide) ?_
  obtain ⟨rfl, rfl⟩ := jx_out hF
  exact kend
def g_17 (a1 a2 a3 a4 a5 : Int32) (v w : jx_V) : Option (jx_V × jx_V) := ((f_X4_broken  v).bind (fun (r1, v1) => ((f_X5_broken  w).bind (fun (r2, w2) => (some (v1, w2))))))
set_option maxHeartbeats 4000000 in
set_option maxRecDepth 100000 in
theorem lc_17 {p : Program} {l : Launch} {e : Env} {s : State} {m : MethodId} {args : Array Value} {below : List Frame} {meth : Method} {c : Code} {Q : State → Prop} {D : va_G} {cI cJ : ClassId} {adX adM adK adV : Nat → Nat} {A : Nat → Prop} {kc ks b L : Nat} {xs : Nat → Int32} (E : jl_E p s m args c D cI cJ adX adM adK adV A b L xs) (x3 : Int32) (h1 : vp_in (x3 + 1) L) (h2 : vp_in (x3 + 2) L) (h3 : vp_in (x3 + 3) L) (h4 : vp_in (x3 + 4) L) (h5 : vp_in (x3 + 5) L) (v w v' w' : jx_V) (hf : kc ≤ room_1.cells ∧ ks ≤ room_1.slots) (hF : g_17 (xs (x3 + 1).toNatClampNeg) (xs (x3 + 2).toNatClampNeg) (xs (x3 + 3).toNatClampNeg) (xs (x3 + 4).toNatClampNeg) (xs (x3 + 5).toNatClampNeg) v w = some (v', w')) (kend : jl_J p l e room_1 s m args below meth c D cI cJ adX adM A kc ks Q v' w' 1698 [(0, .ref b), (1, .ref (adX 0)), (2, .ref (adM 0)), (3, .int x3)] []) : jl_J p l e room_1 s m args below meth c D cI cJ adX adM A kc ks Q v w 809 [(0, .ref b), (1, .ref (adX 0)), (2, .ref (adM 0)), (3, .int x3)] [] := by
  unfold g_17 at hF
  refine jl_aload_n E dL_law_809 1 rfl ?_
  obtain ⟨⟨r1, v1⟩, hc1, hF⟩ := jx_bind hF
  try dsimp only at hF
  refine jl_callX (As := []) (st := []) E dL_law_810 0 rfl (k_X4_broken (jl_inj E.2.2.2.2.2.2.2.2.2.1)  v r1 v1 hc1) (gl_V tw_772 tw_773 tw_774 tw_190 tw_775) rfl rfl dd_X4_broken rfl ⟨by decide, by decide⟩ hf (Nat.le_of_ble_eq_true rfl) ?_
  refine jl_pop E dL_law_813 rfl ?_
  refine jl_aload_n E dL_law_814 2 rfl ?_
  obtain ⟨⟨r2, w2⟩, hc2, hF⟩ := jx_bind hF
  try dsimp only at hF
  refine jl_callM (As := []) (st := []) E dL_law_815 0 rfl (k_X5_broken (jl_inj E.2.2.2.2.2.2.2.2.2.2.1)  w r2 w2 hc2) (gl_V tw_776 tw_777 tw_778 tw_325 tw_779) rfl rfl dd_X5_broken rfl ⟨by decide, by decide⟩ hf (Nat.le_of_ble_eq_true rfl) ?_
  refine jl_pop E dL_law_818 rfl ?_
  refine jl_goto (tgt := 1698) E dL_law_819 (by decide) ?_
  obtain ⟨rfl, rfl⟩ := jx_out hF
  exact kend
def g_18 (a1 a2 a3 a4 a5 : Int32) (v w : jx_V) : Option (jx_V × jx_V) := ((f_X4_months a1 v).bind (fun (r1, v1) => ((f_X5_months a1 w).bind (fun (r2, w2) => (some (v1, w2))))))
set_option maxHeartbeats 4000000 in
set_option maxRecDepth 100000 in
theorem lc_18 {p : Program} {l : Launch} {e : Env} {s : State} {m : MethodId} {args : Array Value} {below : List Frame} {meth : Method} {c : Code} {Q : State → Prop} {D : va_G} {cI cJ : ClassId} {adX adM adK adV : Nat → Nat} {A : Nat → Prop} {kc ks b L : Nat} {xs : Nat → Int32} (E : jl_E p s m args c D cI cJ adX adM adK adV A b L xs) (x3 : Int32) (h1 : vp_in (x3 + 1) L) (h2 : vp_in (x3 + 2) L) (h3 : vp_in (x3 + 3) L) (h4 : vp_in (x3 + 4) L) (h5 : vp_in (x3 + 5) L) (v w v' w' : jx_V) (hf : kc ≤ room_1.cells ∧ ks ≤ room_1.slots) (hF : g_18 (xs (x3 + 1).toNatClampNeg) (xs (x3 + 2).toNatClampNeg) (xs (x3 + 3).toNatClampNeg) (xs (x3 + 4).toNatClampNeg) (xs (x3 + 5).toNatClampNeg) v w = some (v', w')) (kend : jl_J p l e room_1 s m args below meth c D cI cJ adX adM A kc ks Q v' w' 1698 [(0, .ref b), (1, .ref (adX 0)), (2, .ref (adM 0)), (3, .int x3)] []) : jl_J p l e room_1 s m args below meth c D cI cJ adX adM A kc ks Q v w 822 [(0, .ref b), (1, .ref (adX 0)), (2, .ref (adM 0)), (3, .int x3)] [] := by
  unfold g_18 at hF
  refine jl_aload_n E dL_law_822 1 rfl ?_
  refine jl_aload_n E dL_law_823 0 rfl ?_
  refine jl_iload_n E dL_law_824 3 rfl ?_
  refine jl_iconst (x := 1) E dL_law_825 (by decide) ?_
  refine jl_iadd E dL_law_826 ?_
  refine jl_sld E dL_law_827 h1 ?_
  obtain ⟨⟨r1, v1⟩, hc1, hF⟩ := jx_bind hF
  try dsimp only at hF
  refine jl_callX (As := [.int (xs (x3 + 1).toNatClampNeg)]) (st := []) E dL_law_828 1 rfl (k_X4_months (jl_inj E.2.2.2.2.2.2.2.2.2.1) (xs (x3 + 1).toNatClampNeg) v r1 v1 hc1) (gl_V tw_780 tw_781 tw_782 tw_190 tw_783) rfl rfl dd_X4_months rfl ⟨by decide, by decide⟩ hf (Nat.le_of_ble_eq_true rfl) ?_
  refine jl_pop E dL_law_831 rfl ?_
  refine jl_aload_n E dL_law_832 2 rfl ?_
  refine jl_aload_n E dL_law_833 0 rfl ?_
  refine jl_iload_n E dL_law_834 3 rfl ?_
  refine jl_iconst (x := 1) E dL_law_835 (by decide) ?_
  refine jl_iadd E dL_law_836 ?_
  refine jl_sld E dL_law_837 h1 ?_
  obtain ⟨⟨r2, w2⟩, hc2, hF⟩ := jx_bind hF
  try dsimp only at hF
  refine jl_callM (As := [.int (xs (x3 + 1).toNatClampNeg)]) (st := []) E dL_law_838 1 rfl (k_X5_months (jl_inj E.2.2.2.2.2.2.2.2.2.2.1) (xs (x3 + 1).toNatClampNeg) w r2 w2 hc2) (gl_V tw_784 tw_785 tw_786 tw_325 tw_787) rfl rfl dd_X5_months rfl ⟨by decide, by decide⟩ hf (Nat.le_of_ble_eq_true rfl) ?_
  refine jl_pop E dL_law_841 rfl ?_
  refine jl_goto (tgt := 1698) E dL_law_842 (by decide) ?_
  obtain ⟨rfl, rfl⟩ := jx_out hF
  exact kend
def g_19 (a1 a2 a3 a4 a5 : Int32) (v w : jx_V) : Option (jx_V × jx_V) := ((f_X4_ahead a1 a2 v).bind (fun (r1, v1) => ((f_X5_ahead a1 a2 w).bind (fun (r2, w2) => (some (v1, w2))))))
set_option maxHeartbeats 4000000 in
set_option maxRecDepth 100000 in
theorem lc_19 {p : Program} {l : Launch} {e : Env} {s : State} {m : MethodId} {args : Array Value} {below : List Frame} {meth : Method} {c : Code} {Q : State → Prop} {D : va_G} {cI cJ : ClassId} {adX adM adK adV : Nat → Nat} {A : Nat → Prop} {kc ks b L : Nat} {xs : Nat → Int32} (E : jl_E p s m args c D cI cJ adX adM adK adV A b L xs) (x3 : Int32) (h1 : vp_in (x3 + 1) L) (h2 : vp_in (x3 + 2) L) (h3 : vp_in (x3 + 3) L) (h4 : vp_in (x3 + 4) L) (h5 : vp_in (x3 + 5) L) (v w v' w' : jx_V) (hf : kc ≤ room_1.cells ∧ ks ≤ room_1.slots) (hF : g_19 (xs (x3 + 1).toNatClampNeg) (xs (x3 + 2).toNatClampNeg) (xs (x3 + 3).toNatClampNeg) (xs (x3 + 4).toNatClampNeg) (xs (x3 + 5).toNatClampNeg) v w = some (v', w')) (kend : jl_J p l e room_1 s m args below meth c D cI cJ adX adM A kc ks Q v' w' 1698 [(0, .ref b), (1, .ref (adX 0)), (2, .ref (adM 0)), (3, .int x3)] []) : jl_J p l e room_1 s m args below meth c D cI cJ adX adM A kc ks Q v w 845 [(0, .ref b), (1, .ref (adX 0)), (2, .ref (adM 0)), (3, .int x3)] [] := by
  unfold g_19 at hF
  refine jl_aload_n E dL_law_845 1 rfl ?_
  refine jl_aload_n E dL_law_846 0 rfl ?_
  refine jl_iload_n E dL_law_847 3 rfl ?_
  refine jl_iconst (x := 1) E dL_law_848 (by decide) ?_
  refine jl_iadd E dL_law_849 ?_
  refine jl_sld E dL_law_850 h1 ?_
  refine jl_aload_n E dL_law_851 0 rfl ?_
  refine jl_iload_n E dL_law_852 3 rfl ?_
  refine jl_iconst (x := 2) E dL_law_853 (by decide) ?_
  refine jl_iadd E dL_law_854 ?_
  refine jl_sld E dL_law_855 h2 ?_
  obtain ⟨⟨r1, v1⟩, hc1, hF⟩ := jx_bind hF
  try dsimp only at hF
  refine jl_callX (As := [.int (xs (x3 + 1).toNatClampNeg), .int (xs (x3 + 2).toNatClampNeg)]) (st := []) E dL_law_856 2 rfl (k_X4_ahead (jl_inj E.2.2.2.2.2.2.2.2.2.1) (xs (x3 + 1).toNatClampNeg) (xs (x3 + 2).toNatClampNeg) v r1 v1 hc1) (gl_V tw_788 tw_789 tw_790 tw_190 tw_791) rfl rfl dd_X4_ahead rfl ⟨by decide, by decide⟩ hf (Nat.le_of_ble_eq_true rfl) ?_
  refine jl_pop E dL_law_859 rfl ?_
  refine jl_aload_n E dL_law_860 2 rfl ?_
  refine jl_aload_n E dL_law_861 0 rfl ?_
  refine jl_iload_n E dL_law_862 3 rfl ?_
  refine jl_iconst (x := 1) E dL_law_863 (by decide) ?_
  refine jl_iadd E dL_law_864 ?_
  refine jl_sld E dL_law_865 h1 ?_
  refine jl_aload_n E dL_law_866 0 rfl ?_
  refine jl_iload_n E dL_law_867 3 rfl ?_
  refine jl_iconst (x := 2) E dL_law_868 (by decide) ?_
  refine jl_iadd E dL_law_869 ?_
  refine jl_sld E dL_law_870 h2 ?_
  obtain ⟨⟨r2, w2⟩, hc2, hF⟩ := jx_bind hF
  try dsimp only at hF
  refine jl_callM (As := [.int (xs (x3 + 1).toNatClampNeg), .int (xs (x3 + 2).toNatClampNeg)]) (st := []) E dL_law_871 2 rfl (k_X5_ahead (jl_inj E.2.2.2.2.2.2.2.2.2.2.1) (xs (x3 + 1).toNatClampNeg) (xs (x3 + 2).toNatClampNeg) w r2 w2 hc2) (gl_V tw_792 tw_793 tw_794 tw_325 tw_795) rfl rfl dd_X5_ahead rfl ⟨by decide, by decide⟩ hf (Nat.le_of_ble_eq_true rfl) ?_
  refine jl_pop E dL_law_874 rfl ?_
  refine jl_goto (tgt := 1698) E dL_law_875 (by decide) ?_
  obtain ⟨rfl, rfl⟩ := jx_out hF
  exact kend
def g_20 (a1 a2 a3 a4 a5 : Int32) (v w : jx_V) : Option (jx_V × jx_V) := ((f_X4_breach a1 v).bind (fun (r1, v1) => ((f_X5_breach a1 w).bind (fun (r2, w2) => (some (v1, w2))))))
set_option maxHeartbeats 4000000 in
set_option maxRecDepth 100000 in
theorem lc_20 {p : Program} {l : Launch} {e : Env} {s : State} {m : MethodId} {args : Array Value} {below : List Frame} {meth : Method} {c : Code} {Q : State → Prop} {D : va_G} {cI cJ : ClassId} {adX adM adK adV : Nat → Nat} {A : Nat → Prop} {kc ks b L : Nat} {xs : Nat → Int32} (E : jl_E p s m args c D cI cJ adX adM adK adV A b L xs) (x3 : Int32) (h1 : vp_in (x3 + 1) L) (h2 : vp_in (x3 + 2) L) (h3 : vp_in (x3 + 3) L) (h4 : vp_in (x3 + 4) L) (h5 : vp_in (x3 + 5) L) (v w v' w' : jx_V) (hf : kc ≤ room_1.cells ∧ ks ≤ room_1.slots) (hF : g_20 (xs (x3 + 1).toNatClampNeg) (xs (x3 + 2).toNatClampNeg) (xs (x3 + 3).toNatClampNeg) (xs (x3 + 4).toNatClampNeg) (xs (x3 + 5).toNatClampNeg) v w = some (v', w')) (kend : jl_J p l e room_1 s m args below meth c D cI cJ adX adM A kc ks Q v' w' 1698 [(0, .ref b), (1, .ref (adX 0)), (2, .ref (adM 0)), (3, .int x3)] []) : jl_J p l e room_1 s m args below meth c D cI cJ adX adM A kc ks Q v w 878 [(0, .ref b), (1, .ref (adX 0)), (2, .ref (adM 0)), (3, .int x3)] [] := by
  unfold g_20 at hF
  refine jl_aload_n E dL_law_878 1 rfl ?_
  refine jl_aload_n E dL_law_879 0 rfl ?_
  refine jl_iload_n E dL_law_880 3 rfl ?_
  refine jl_iconst (x := 1) E dL_law_881 (by decide) ?_
  refine jl_iadd E dL_law_882 ?_
  refine jl_sld E dL_law_883 h1 ?_
  obtain ⟨⟨r1, v1⟩, hc1, hF⟩ := jx_bind hF
  try dsimp only at hF
  refine jl_callX (As := [.int (xs (x3 + 1).toNatClampNeg)]) (st := []) E dL_law_884 1 rfl (k_X4_breach (jl_inj E.2.2.2.2.2.2.2.2.2.1) (xs (x3 + 1).toNatClampNeg) v r1 v1 hc1) (gl_V tw_796 tw_797 tw_798 tw_190 tw_799) rfl rfl dd_X4_breach rfl ⟨by decide, by decide⟩ hf (Nat.le_of_ble_eq_true rfl) ?_
  refine jl_pop E dL_law_887 rfl ?_
  refine jl_aload_n E dL_law_888 2 rfl ?_
  refine jl_aload_n E dL_law_889 0 rfl ?_
  refine jl_iload_n E dL_law_890 3 rfl ?_
  refine jl_iconst (x := 1) E dL_law_891 (by decide) ?_
  refine jl_iadd E dL_law_892 ?_
  refine jl_sld E dL_law_893 h1 ?_
  obtain ⟨⟨r2, w2⟩, hc2, hF⟩ := jx_bind hF
  try dsimp only at hF
  refine jl_callM (As := [.int (xs (x3 + 1).toNatClampNeg)]) (st := []) E dL_law_894 1 rfl (k_X5_breach (jl_inj E.2.2.2.2.2.2.2.2.2.2.1) (xs (x3 + 1).toNatClampNeg) w r2 w2 hc2) (gl_V tw_800 tw_801 tw_802 tw_325 tw_803) rfl rfl dd_X5_breach rfl ⟨by decide, by decide⟩ hf (Nat.le_of_ble_eq_true rfl) ?_
  refine jl_pop E dL_law_897 rfl ?_
  refine jl_goto (tgt := 1698) E dL_law_898 (by decide) ?_
  obtain ⟨rfl, rfl⟩ := jx_out hF
  exact kend
def g_21 (a1 a2 a3 a4 a5 : Int32) (v w : jx_V) : Option (jx_V × jx_V) := ((f_X4_blame a1 v).bind (fun (r1, v1) => ((f_X5_blame a1 w).bind (fun (r2, w2) => (some (v1, w2))))))
set_option maxHeartbeats 4000000 in
set_option maxRecDepth 100000 in
theorem lc_21 {p : Program} {l : Launch} {e : Env} {s : State} {m : MethodId} {args : Array Value} {below : List Frame} {meth : Method} {c : Code} {Q : State → Prop} {D : va_G} {cI cJ : ClassId} {adX adM adK adV : Nat → Nat} {A : Nat → Prop} {kc ks b L : Nat} {xs : Nat → Int32} (E : jl_E p s m args c D cI cJ adX adM adK adV A b L xs) (x3 : Int32) (h1 : vp_in (x3 + 1) L) (h2 : vp_in (x3 + 2) L) (h3 : vp_in (x3 + 3) L) (h4 : vp_in (x3 + 4) L) (h5 : vp_in (x3 + 5) L) (v w v' w' : jx_V) (hf : kc ≤ room_1.cells ∧ ks ≤ room_1.slots) (hF : g_21 (xs (x3 + 1).toNatClampNeg) (xs (x3 + 2).toNatClampNeg) (xs (x3 + 3).toNatClampNeg) (xs (x3 + 4).toNatClampNeg) (xs (x3 + 5).toNatClampNeg) v w = some (v', w')) (kend : jl_J p l e room_1 s m args below meth c D cI cJ adX adM A kc ks Q v' w' 1698 [(0, .ref b), (1, .ref (adX 0)), (2, .ref (adM 0)), (3, .int x3)] []) : jl_J p l e room_1 s m args below meth c D cI cJ adX adM A kc ks Q v w 901 [(0, .ref b), (1, .ref (adX 0)), (2, .ref (adM 0)), (3, .int x3)] [] := by
  unfold g_21 at hF
  refine jl_aload_n E dL_law_901 1 rfl ?_
  refine jl_aload_n E dL_law_902 0 rfl ?_
  refine jl_iload_n E dL_law_903 3 rfl ?_
  refine jl_iconst (x := 1) E dL_law_904 (by decide) ?_
  refine jl_iadd E dL_law_905 ?_
  refine jl_sld E dL_law_906 h1 ?_
  obtain ⟨⟨r1, v1⟩, hc1, hF⟩ := jx_bind hF
  try dsimp only at hF
  refine jl_callX (As := [.int (xs (x3 + 1).toNatClampNeg)]) (st := []) E dL_law_907 1 rfl (k_X4_blame (jl_inj E.2.2.2.2.2.2.2.2.2.1) (xs (x3 + 1).toNatClampNeg) v r1 v1 hc1) (gl_V tw_804 tw_805 tw_806 tw_190 tw_807) rfl rfl dd_X4_blame rfl ⟨by decide, by decide⟩ hf (Nat.le_of_ble_eq_true rfl) ?_
  refine jl_pop E dL_law_910 rfl ?_
  refine jl_aload_n E dL_law_911 2 rfl ?_
  refine jl_aload_n E dL_law_912 0 rfl ?_
  refine jl_iload_n E dL_law_913 3 rfl ?_
  refine jl_iconst (x := 1) E dL_law_914 (by decide) ?_
  refine jl_iadd E dL_law_915 ?_
  refine jl_sld E dL_law_916 h1 ?_
  obtain ⟨⟨r2, w2⟩, hc2, hF⟩ := jx_bind hF
  try dsimp only at hF
  refine jl_callM (As := [.int (xs (x3 + 1).toNatClampNeg)]) (st := []) E dL_law_917 1 rfl (k_X5_blame (jl_inj E.2.2.2.2.2.2.2.2.2.2.1) (xs (x3 + 1).toNatClampNeg) w r2 w2 hc2) (gl_V tw_808 tw_809 tw_810 tw_325 tw_811) rfl rfl dd_X5_blame rfl ⟨by decide, by decide⟩ hf (Nat.le_of_ble_eq_true rfl) ?_
  refine jl_pop E dL_law_920 rfl ?_
  refine jl_goto (tgt := 1698) E dL_law_921 (by decide) ?_
  obtain ⟨rfl, rfl⟩ := jx_out hF
  exact kend
def g_22 (a1 a2 a3 a4 a5 : Int32) (v w : jx_V) : Option (jx_V × jx_V) := ((f_X4_paint a1 v).bind (fun (r1, v1) => ((f_X5_paint a1 w).bind (fun (r2, w2) => (some (v1, w2))))))
set_option maxHeartbeats 4000000 in
set_option maxRecDepth 100000 in
theorem lc_22 {p : Program} {l : Launch} {e : Env} {s : State} {m : MethodId} {args : Array Value} {below : List Frame} {meth : Method} {c : Code} {Q : State → Prop} {D : va_G} {cI cJ : ClassId} {adX adM adK adV : Nat → Nat} {A : Nat → Prop} {kc ks b L : Nat} {xs : Nat → Int32} (E : jl_E p s m args c D cI cJ adX adM adK adV A b L xs) (x3 : Int32) (h1 : vp_in (x3 + 1) L) (h2 : vp_in (x3 + 2) L) (h3 : vp_in (x3 + 3) L) (h4 : vp_in (x3 + 4) L) (h5 : vp_in (x3 + 5) L) (v w v' w' : jx_V) (hf : kc ≤ room_1.cells ∧ ks ≤ room_1.slots) (hF : g_22 (xs (x3 + 1).toNatClampNeg) (xs (x3 + 2).toNatClampNeg) (xs (x3 + 3).toNatClampNeg) (xs (x3 + 4).toNatClampNeg) (xs (x3 + 5).toNatClampNeg) v w = some (v', w')) (kend : jl_J p l e room_1 s m args below meth c D cI cJ adX adM A kc ks Q v' w' 1698 [(0, .ref b), (1, .ref (adX 0)), (2, .ref (adM 0)), (3, .int x3)] []) : jl_J p l e room_1 s m args below meth c D cI cJ adX adM A kc ks Q v w 924 [(0, .ref b), (1, .ref (adX 0)), (2, .ref (adM 0)), (3, .int x3)] [] := by
  unfold g_22 at hF
  refine jl_aload_n E dL_law_924 1 rfl ?_
  refine jl_aload_n E dL_law_925 0 rfl ?_
  refine jl_iload_n E dL_law_926 3 rfl ?_
  refine jl_iconst (x := 1) E dL_law_927 (by decide) ?_
  refine jl_iadd E dL_law_928 ?_
  refine jl_sld E dL_law_929 h1 ?_
  obtain ⟨⟨r1, v1⟩, hc1, hF⟩ := jx_bind hF
  try dsimp only at hF
  refine jl_callX (As := [.int (xs (x3 + 1).toNatClampNeg)]) (st := []) E dL_law_930 1 rfl (k_X4_paint (jl_inj E.2.2.2.2.2.2.2.2.2.1) (xs (x3 + 1).toNatClampNeg) v r1 v1 hc1) (gl_V tw_812 tw_813 tw_814 tw_190 tw_815) rfl rfl dd_X4_paint rfl ⟨by decide, by decide⟩ hf (Nat.le_of_ble_eq_true rfl) ?_
  refine jl_pop E dL_law_933 rfl ?_
  refine jl_aload_n E dL_law_934 2 rfl ?_
  refine jl_aload_n E dL_law_935 0 rfl ?_
  refine jl_iload_n E dL_law_936 3 rfl ?_
  refine jl_iconst (x := 1) E dL_law_937 (by decide) ?_
  refine jl_iadd E dL_law_938 ?_
  refine jl_sld E dL_law_939 h1 ?_
  obtain ⟨⟨r2, w2⟩, hc2, hF⟩ := jx_bind hF
  try dsimp only at hF
  refine jl_callM (As := [.int (xs (x3 + 1).toNatClampNeg)]) (st := []) E dL_law_940 1 rfl (k_X5_paint (jl_inj E.2.2.2.2.2.2.2.2.2.2.1) (xs (x3 + 1).toNatClampNeg) w r2 w2 hc2) (gl_V tw_816 tw_817 tw_818 tw_325 tw_819) rfl rfl dd_X5_paint rfl ⟨by decide, by decide⟩ hf (Nat.le_of_ble_eq_true rfl) ?_
  refine jl_pop E dL_law_943 rfl ?_
  refine jl_goto (tgt := 1698) E dL_law_944 (by decide) ?_
  obtain ⟨rfl, rfl⟩ := jx_out hF
  exact kend
def g_23 (a1 a2 a3 a4 a5 : Int32) (v w : jx_V) : Option (jx_V × jx_V) := ((f_X4_height a1 v).bind (fun (r1, v1) => ((f_X5_height a1 w).bind (fun (r2, w2) => (some (v1, w2))))))
set_option maxHeartbeats 4000000 in
set_option maxRecDepth 100000 in
theorem lc_23 {p : Program} {l : Launch} {e : Env} {s : State} {m : MethodId} {args : Array Value} {below : List Frame} {meth : Method} {c : Code} {Q : State → Prop} {D : va_G} {cI cJ : ClassId} {adX adM adK adV : Nat → Nat} {A : Nat → Prop} {kc ks b L : Nat} {xs : Nat → Int32} (E : jl_E p s m args c D cI cJ adX adM adK adV A b L xs) (x3 : Int32) (h1 : vp_in (x3 + 1) L) (h2 : vp_in (x3 + 2) L) (h3 : vp_in (x3 + 3) L) (h4 : vp_in (x3 + 4) L) (h5 : vp_in (x3 + 5) L) (v w v' w' : jx_V) (hf : kc ≤ room_1.cells ∧ ks ≤ room_1.slots) (hF : g_23 (xs (x3 + 1).toNatClampNeg) (xs (x3 + 2).toNatClampNeg) (xs (x3 + 3).toNatClampNeg) (xs (x3 + 4).toNatClampNeg) (xs (x3 + 5).toNatClampNeg) v w = some (v', w')) (kend : jl_J p l e room_1 s m args below meth c D cI cJ adX adM A kc ks Q v' w' 1698 [(0, .ref b), (1, .ref (adX 0)), (2, .ref (adM 0)), (3, .int x3)] []) : jl_J p l e room_1 s m args below meth c D cI cJ adX adM A kc ks Q v w 947 [(0, .ref b), (1, .ref (adX 0)), (2, .ref (adM 0)), (3, .int x3)] [] := by
  unfold g_23 at hF
  refine jl_aload_n E dL_law_947 1 rfl ?_
  refine jl_aload_n E dL_law_948 0 rfl ?_
  refine jl_iload_n E dL_law_949 3 rfl ?_
  refine jl_iconst (x := 1) E dL_law_950 (by decide) ?_
  refine jl_iadd E dL_law_951 ?_
  refine jl_sld E dL_law_952 h1 ?_
  obtain ⟨⟨r1, v1⟩, hc1, hF⟩ := jx_bind hF
  try dsimp only at hF
  refine jl_callX (As := [.int (xs (x3 + 1).toNatClampNeg)]) (st := []) E dL_law_953 1 rfl (k_X4_height (jl_inj E.2.2.2.2.2.2.2.2.2.1) (xs (x3 + 1).toNatClampNeg) v r1 v1 hc1) (gl_V tw_820 tw_821 tw_822 tw_190 tw_823) rfl rfl dd_X4_height rfl ⟨by decide, by decide⟩ hf (Nat.le_of_ble_eq_true rfl) ?_
  refine jl_pop E dL_law_956 rfl ?_
  refine jl_aload_n E dL_law_957 2 rfl ?_
  refine jl_aload_n E dL_law_958 0 rfl ?_
  refine jl_iload_n E dL_law_959 3 rfl ?_
  refine jl_iconst (x := 1) E dL_law_960 (by decide) ?_
  refine jl_iadd E dL_law_961 ?_
  refine jl_sld E dL_law_962 h1 ?_
  obtain ⟨⟨r2, w2⟩, hc2, hF⟩ := jx_bind hF
  try dsimp only at hF
  refine jl_callM (As := [.int (xs (x3 + 1).toNatClampNeg)]) (st := []) E dL_law_963 1 rfl (k_X5_height (jl_inj E.2.2.2.2.2.2.2.2.2.2.1) (xs (x3 + 1).toNatClampNeg) w r2 w2 hc2) (gl_V tw_824 tw_825 tw_826 tw_325 tw_827) rfl rfl dd_X5_height rfl ⟨by decide, by decide⟩ hf (Nat.le_of_ble_eq_true rfl) ?_
  refine jl_pop E dL_law_966 rfl ?_
  refine jl_goto (tgt := 1698) E dL_law_967 (by decide) ?_
  obtain ⟨rfl, rfl⟩ := jx_out hF
  exact kend
def g_24 (a1 a2 a3 a4 a5 : Int32) (v w : jx_V) : Option (jx_V × jx_V) := ((f_X4_storey a1 a2 v).bind (fun (r1, v1) => ((f_X5_storey a1 a2 w).bind (fun (r2, w2) => (some (v1, w2))))))
set_option maxHeartbeats 4000000 in
set_option maxRecDepth 100000 in
theorem lc_24 {p : Program} {l : Launch} {e : Env} {s : State} {m : MethodId} {args : Array Value} {below : List Frame} {meth : Method} {c : Code} {Q : State → Prop} {D : va_G} {cI cJ : ClassId} {adX adM adK adV : Nat → Nat} {A : Nat → Prop} {kc ks b L : Nat} {xs : Nat → Int32} (E : jl_E p s m args c D cI cJ adX adM adK adV A b L xs) (x3 : Int32) (h1 : vp_in (x3 + 1) L) (h2 : vp_in (x3 + 2) L) (h3 : vp_in (x3 + 3) L) (h4 : vp_in (x3 + 4) L) (h5 : vp_in (x3 + 5) L) (v w v' w' : jx_V) (hf : kc ≤ room_1.cells ∧ ks ≤ room_1.slots) (hF : g_24 (xs (x3 + 1).toNatClampNeg) (xs (x3 + 2).toNatClampNeg) (xs (x3 + 3).toNatClampNeg) (xs (x3 + 4).toNatClampNeg) (xs (x3 + 5).toNatClampNeg) v w = some (v', w')) (kend : jl_J p l e room_1 s m args below meth c D cI cJ adX adM A kc ks Q v' w' 1698 [(0, .ref b), (1, .ref (adX 0)), (2, .ref (adM 0)), (3, .int x3)] []) : jl_J p l e room_1 s m args below meth c D cI cJ adX adM A kc ks Q v w 970 [(0, .ref b), (1, .ref (adX 0)), (2, .ref (adM 0)), (3, .int x3)] [] := by
  unfold g_24 at hF
  refine jl_aload_n E dL_law_970 1 rfl ?_
  refine jl_aload_n E dL_law_971 0 rfl ?_
  refine jl_iload_n E dL_law_972 3 rfl ?_
  refine jl_iconst (x := 1) E dL_law_973 (by decide) ?_
  refine jl_iadd E dL_law_974 ?_
  refine jl_sld E dL_law_975 h1 ?_
  refine jl_aload_n E dL_law_976 0 rfl ?_
  refine jl_iload_n E dL_law_977 3 rfl ?_
  refine jl_iconst (x := 2) E dL_law_978 (by decide) ?_
  refine jl_iadd E dL_law_979 ?_
  refine jl_sld E dL_law_980 h2 ?_
  obtain ⟨⟨r1, v1⟩, hc1, hF⟩ := jx_bind hF
  try dsimp only at hF
  refine jl_callX (As := [.int (xs (x3 + 1).toNatClampNeg), .int (xs (x3 + 2).toNatClampNeg)]) (st := []) E dL_law_981 2 rfl (k_X4_storey (jl_inj E.2.2.2.2.2.2.2.2.2.1) (xs (x3 + 1).toNatClampNeg) (xs (x3 + 2).toNatClampNeg) v r1 v1 hc1) (gl_V tw_828 tw_829 tw_830 tw_190 tw_831) rfl rfl dd_X4_storey rfl ⟨by decide, by decide⟩ hf (Nat.le_of_ble_eq_true rfl) ?_
  refine jl_pop E dL_law_984 rfl ?_
  refine jl_aload_n E dL_law_985 2 rfl ?_
  refine jl_aload_n E dL_law_986 0 rfl ?_
  refine jl_iload_n E dL_law_987 3 rfl ?_
  refine jl_iconst (x := 1) E dL_law_988 (by decide) ?_
  refine jl_iadd E dL_law_989 ?_
  refine jl_sld E dL_law_990 h1 ?_
  refine jl_aload_n E dL_law_991 0 rfl ?_
  refine jl_iload_n E dL_law_992 3 rfl ?_
  refine jl_iconst (x := 2) E dL_law_993 (by decide) ?_
  refine jl_iadd E dL_law_994 ?_
  refine jl_sld E dL_law_995 h2 ?_
  obtain ⟨⟨r2, w2⟩, hc2, hF⟩ := jx_bind hF
  try dsimp only at hF
  refine jl_callM (As := [.int (xs (x3 + 1).toNatClampNeg), .int (xs (x3 + 2).toNatClampNeg)]) (st := []) E dL_law_996 2 rfl (k_X5_storey (jl_inj E.2.2.2.2.2.2.2.2.2.2.1) (xs (x3 + 1).toNatClampNeg) (xs (x3 + 2).toNatClampNeg) w r2 w2 hc2) (gl_V tw_832 tw_833 tw_834 tw_325 tw_835) rfl rfl dd_X5_storey rfl ⟨by decide, by decide⟩ hf (Nat.le_of_ble_eq_true rfl) ?_
  refine jl_pop E dL_law_999 rfl ?_
  refine jl_goto (tgt := 1698) E dL_law_1000 (by decide) ?_
  obtain ⟨rfl, rfl⟩ := jx_out hF
  exact kend
def g_25 (a1 a2 a3 a4 a5 : Int32) (v w : jx_V) : Option (jx_V × jx_V) := ((f_X4_allowed a1 v).bind (fun (r1, v1) => ((f_X5_allowed a1 w).bind (fun (r2, w2) => (some (v1, w2))))))
set_option maxHeartbeats 4000000 in
set_option maxRecDepth 100000 in
theorem lc_25 {p : Program} {l : Launch} {e : Env} {s : State} {m : MethodId} {args : Array Value} {below : List Frame} {meth : Method} {c : Code} {Q : State → Prop} {D : va_G} {cI cJ : ClassId} {adX adM adK adV : Nat → Nat} {A : Nat → Prop} {kc ks b L : Nat} {xs : Nat → Int32} (E : jl_E p s m args c D cI cJ adX adM adK adV A b L xs) (x3 : Int32) (h1 : vp_in (x3 + 1) L) (h2 : vp_in (x3 + 2) L) (h3 : vp_in (x3 + 3) L) (h4 : vp_in (x3 + 4) L) (h5 : vp_in (x3 + 5) L) (v w v' w' : jx_V) (hf : kc ≤ room_1.cells ∧ ks ≤ room_1.slots) (hF : g_25 (xs (x3 + 1).toNatClampNeg) (xs (x3 + 2).toNatClampNeg) (xs (x3 + 3).toNatClampNeg) (xs (x3 + 4).toNatClampNeg) (xs (x3 + 5).toNatClampNeg) v w = some (v', w')) (kend : jl_J p l e room_1 s m args below meth c D cI cJ adX adM A kc ks Q v' w' 1698 [(0, .ref b), (1, .ref (adX 0)), (2, .ref (adM 0)), (3, .int x3)] []) : jl_J p l e room_1 s m args below meth c D cI cJ adX adM A kc ks Q v w 1003 [(0, .ref b), (1, .ref (adX 0)), (2, .ref (adM 0)), (3, .int x3)] [] := by
  unfold g_25 at hF
  refine jl_aload_n E dL_law_1003 1 rfl ?_
  refine jl_aload_n E dL_law_1004 0 rfl ?_
  refine jl_iload_n E dL_law_1005 3 rfl ?_
  refine jl_iconst (x := 1) E dL_law_1006 (by decide) ?_
  refine jl_iadd E dL_law_1007 ?_
  refine jl_sld E dL_law_1008 h1 ?_
  obtain ⟨⟨r1, v1⟩, hc1, hF⟩ := jx_bind hF
  try dsimp only at hF
  refine jl_callX (As := [.int (xs (x3 + 1).toNatClampNeg)]) (st := []) E dL_law_1009 1 rfl (k_X4_allowed (jl_inj E.2.2.2.2.2.2.2.2.2.1) (xs (x3 + 1).toNatClampNeg) v r1 v1 hc1) (gl_V tw_836 tw_837 tw_838 tw_190 tw_839) rfl rfl dd_X4_allowed rfl ⟨by decide, by decide⟩ hf (Nat.le_of_ble_eq_true rfl) ?_
  refine jl_pop E dL_law_1012 rfl ?_
  refine jl_aload_n E dL_law_1013 2 rfl ?_
  refine jl_aload_n E dL_law_1014 0 rfl ?_
  refine jl_iload_n E dL_law_1015 3 rfl ?_
  refine jl_iconst (x := 1) E dL_law_1016 (by decide) ?_
  refine jl_iadd E dL_law_1017 ?_
  refine jl_sld E dL_law_1018 h1 ?_
  obtain ⟨⟨r2, w2⟩, hc2, hF⟩ := jx_bind hF
  try dsimp only at hF
  refine jl_callM (As := [.int (xs (x3 + 1).toNatClampNeg)]) (st := []) E dL_law_1019 1 rfl (k_X5_allowed (jl_inj E.2.2.2.2.2.2.2.2.2.2.1) (xs (x3 + 1).toNatClampNeg) w r2 w2 hc2) (gl_V tw_840 tw_841 tw_842 tw_325 tw_843) rfl rfl dd_X5_allowed rfl ⟨by decide, by decide⟩ hf (Nat.le_of_ble_eq_true rfl) ?_
  refine jl_pop E dL_law_1022 rfl ?_
  refine jl_goto (tgt := 1698) E dL_law_1023 (by decide) ?_
  obtain ⟨rfl, rfl⟩ := jx_out hF
  exact kend
def g_26 (a1 a2 a3 a4 a5 : Int32) (v w : jx_V) : Option (jx_V × jx_V) := ((f_X4_opens a1 v).bind (fun (r1, v1) => ((f_X5_opens a1 w).bind (fun (r2, w2) => (some (v1, w2))))))
set_option maxHeartbeats 4000000 in
set_option maxRecDepth 100000 in
theorem lc_26 {p : Program} {l : Launch} {e : Env} {s : State} {m : MethodId} {args : Array Value} {below : List Frame} {meth : Method} {c : Code} {Q : State → Prop} {D : va_G} {cI cJ : ClassId} {adX adM adK adV : Nat → Nat} {A : Nat → Prop} {kc ks b L : Nat} {xs : Nat → Int32} (E : jl_E p s m args c D cI cJ adX adM adK adV A b L xs) (x3 : Int32) (h1 : vp_in (x3 + 1) L) (h2 : vp_in (x3 + 2) L) (h3 : vp_in (x3 + 3) L) (h4 : vp_in (x3 + 4) L) (h5 : vp_in (x3 + 5) L) (v w v' w' : jx_V) (hf : kc ≤ room_1.cells ∧ ks ≤ room_1.slots) (hF : g_26 (xs (x3 + 1).toNatClampNeg) (xs (x3 + 2).toNatClampNeg) (xs (x3 + 3).toNatClampNeg) (xs (x3 + 4).toNatClampNeg) (xs (x3 + 5).toNatClampNeg) v w = some (v', w')) (kend : jl_J p l e room_1 s m args below meth c D cI cJ adX adM A kc ks Q v' w' 1698 [(0, .ref b), (1, .ref (adX 0)), (2, .ref (adM 0)), (3, .int x3)] []) : jl_J p l e room_1 s m args below meth c D cI cJ adX adM A kc ks Q v w 1026 [(0, .ref b), (1, .ref (adX 0)), (2, .ref (adM 0)), (3, .int x3)] [] := by
  unfold g_26 at hF
  refine jl_aload_n E dL_law_1026 1 rfl ?_
  refine jl_aload_n E dL_law_1027 0 rfl ?_
  refine jl_iload_n E dL_law_1028 3 rfl ?_
  refine jl_iconst (x := 1) E dL_law_1029 (by decide) ?_
  refine jl_iadd E dL_law_1030 ?_
  refine jl_sld E dL_law_1031 h1 ?_
  obtain ⟨⟨r1, v1⟩, hc1, hF⟩ := jx_bind hF
  try dsimp only at hF
  refine jl_callX (As := [.int (xs (x3 + 1).toNatClampNeg)]) (st := []) E dL_law_1032 1 rfl (k_X4_opens (jl_inj E.2.2.2.2.2.2.2.2.2.1) (xs (x3 + 1).toNatClampNeg) v r1 v1 hc1) (gl_V tw_844 tw_845 tw_846 tw_190 tw_847) rfl rfl dd_X4_opens rfl ⟨by decide, by decide⟩ hf (Nat.le_of_ble_eq_true rfl) ?_
  refine jl_pop E dL_law_1035 rfl ?_
  refine jl_aload_n E dL_law_1036 2 rfl ?_
  refine jl_aload_n E dL_law_1037 0 rfl ?_
  refine jl_iload_n E dL_law_1038 3 rfl ?_
  refine jl_iconst (x := 1) E dL_law_1039 (by decide) ?_
  refine jl_iadd E dL_law_1040 ?_
  refine jl_sld E dL_law_1041 h1 ?_
  obtain ⟨⟨r2, w2⟩, hc2, hF⟩ := jx_bind hF
  try dsimp only at hF
  refine jl_callM (As := [.int (xs (x3 + 1).toNatClampNeg)]) (st := []) E dL_law_1042 1 rfl (k_X5_opens (jl_inj E.2.2.2.2.2.2.2.2.2.2.1) (xs (x3 + 1).toNatClampNeg) w r2 w2 hc2) (gl_V tw_848 tw_849 tw_850 tw_325 tw_851) rfl rfl dd_X5_opens rfl ⟨by decide, by decide⟩ hf (Nat.le_of_ble_eq_true rfl) ?_
  refine jl_pop E dL_law_1045 rfl ?_
  refine jl_goto (tgt := 1698) E dL_law_1046 (by decide) ?_
  obtain ⟨rfl, rfl⟩ := jx_out hF
  exact kend
def g_27 (a1 a2 a3 a4 a5 : Int32) (v w : jx_V) : Option (jx_V × jx_V) := ((f_X4_level a1 v).bind (fun (r1, v1) => ((f_X5_level a1 w).bind (fun (r2, w2) => (some (v1, w2))))))
set_option maxHeartbeats 4000000 in
set_option maxRecDepth 100000 in
theorem lc_27 {p : Program} {l : Launch} {e : Env} {s : State} {m : MethodId} {args : Array Value} {below : List Frame} {meth : Method} {c : Code} {Q : State → Prop} {D : va_G} {cI cJ : ClassId} {adX adM adK adV : Nat → Nat} {A : Nat → Prop} {kc ks b L : Nat} {xs : Nat → Int32} (E : jl_E p s m args c D cI cJ adX adM adK adV A b L xs) (x3 : Int32) (h1 : vp_in (x3 + 1) L) (h2 : vp_in (x3 + 2) L) (h3 : vp_in (x3 + 3) L) (h4 : vp_in (x3 + 4) L) (h5 : vp_in (x3 + 5) L) (v w v' w' : jx_V) (hf : kc ≤ room_1.cells ∧ ks ≤ room_1.slots) (hF : g_27 (xs (x3 + 1).toNatClampNeg) (xs (x3 + 2).toNatClampNeg) (xs (x3 + 3).toNatClampNeg) (xs (x3 + 4).toNatClampNeg) (xs (x3 + 5).toNatClampNeg) v w = some (v', w')) (kend : jl_J p l e room_1 s m args below meth c D cI cJ adX adM A kc ks Q v' w' 1698 [(0, .ref b), (1, .ref (adX 0)), (2, .ref (adM 0)), (3, .int x3)] []) : jl_J p l e room_1 s m args below meth c D cI cJ adX adM A kc ks Q v w 1049 [(0, .ref b), (1, .ref (adX 0)), (2, .ref (adM 0)), (3, .int x3)] [] := by
  unfold g_27 at hF
  refine jl_aload_n E dL_law_1049 1 rfl ?_
  refine jl_aload_n E dL_law_1050 0 rfl ?_
  refine jl_iload_n E dL_law_1051 3 rfl ?_
  refine jl_iconst (x := 1) E dL_law_1052 (by decide) ?_
  refine jl_iadd E dL_law_1053 ?_
  refine jl_sld E dL_law_1054 h1 ?_
  obtain ⟨⟨r1, v1⟩, hc1, hF⟩ := jx_bind hF
  try dsimp only at hF
  refine jl_callX (As := [.int (xs (x3 + 1).toNatClampNeg)]) (st := []) E dL_law_1055 1 rfl (k_X4_level (jl_inj E.2.2.2.2.2.2.2.2.2.1) (xs (x3 + 1).toNatClampNeg) v r1 v1 hc1) (gl_V tw_852 tw_853 tw_854 tw_190 tw_855) rfl rfl dd_X4_level rfl ⟨by decide, by decide⟩ hf (Nat.le_of_ble_eq_true rfl) ?_
  refine jl_pop E dL_law_1058 rfl ?_
  refine jl_aload_n E dL_law_1059 2 rfl ?_
  refine jl_aload_n E dL_law_1060 0 rfl ?_
  refine jl_iload_n E dL_law_1061 3 rfl ?_
  refine jl_iconst (x := 1) E dL_law_1062 (by decide) ?_
  refine jl_iadd E dL_law_1063 ?_
  refine jl_sld E dL_law_1064 h1 ?_
  obtain ⟨⟨r2, w2⟩, hc2, hF⟩ := jx_bind hF
  try dsimp only at hF
  refine jl_callM (As := [.int (xs (x3 + 1).toNatClampNeg)]) (st := []) E dL_law_1065 1 rfl (k_X5_level (jl_inj E.2.2.2.2.2.2.2.2.2.2.1) (xs (x3 + 1).toNatClampNeg) w r2 w2 hc2) (gl_V tw_856 tw_857 tw_858 tw_325 tw_859) rfl rfl dd_X5_level rfl ⟨by decide, by decide⟩ hf (Nat.le_of_ble_eq_true rfl) ?_
  refine jl_pop E dL_law_1068 rfl ?_
  refine jl_goto (tgt := 1698) E dL_law_1069 (by decide) ?_
  obtain ⟨rfl, rfl⟩ := jx_out hF
  exact kend
def g_28 (a1 a2 a3 a4 a5 : Int32) (v w : jx_V) : Option (jx_V × jx_V) := ((f_X4_cheapest a1 v).bind (fun (r1, v1) => ((f_X5_cheapest a1 w).bind (fun (r2, w2) => (some (v1, w2))))))
set_option maxHeartbeats 4000000 in
set_option maxRecDepth 100000 in
theorem lc_28 {p : Program} {l : Launch} {e : Env} {s : State} {m : MethodId} {args : Array Value} {below : List Frame} {meth : Method} {c : Code} {Q : State → Prop} {D : va_G} {cI cJ : ClassId} {adX adM adK adV : Nat → Nat} {A : Nat → Prop} {kc ks b L : Nat} {xs : Nat → Int32} (E : jl_E p s m args c D cI cJ adX adM adK adV A b L xs) (x3 : Int32) (h1 : vp_in (x3 + 1) L) (h2 : vp_in (x3 + 2) L) (h3 : vp_in (x3 + 3) L) (h4 : vp_in (x3 + 4) L) (h5 : vp_in (x3 + 5) L) (v w v' w' : jx_V) (hf : kc ≤ room_1.cells ∧ ks ≤ room_1.slots) (hF : g_28 (xs (x3 + 1).toNatClampNeg) (xs (x3 + 2).toNatClampNeg) (xs (x3 + 3).toNatClampNeg) (xs (x3 + 4).toNatClampNeg) (xs (x3 + 5).toNatClampNeg) v w = some (v', w')) (kend : jl_J p l e room_1 s m args below meth c D cI cJ adX adM A kc ks Q v' w' 1698 [(0, .ref b), (1, .ref (adX 0)), (2, .ref (adM 0)), (3, .int x3)] []) : jl_J p l e room_1 s m args below meth c D cI cJ adX adM A kc ks Q v w 1072 [(0, .ref b), (1, .ref (adX 0)), (2, .ref (adM 0)), (3, .int x3)] [] := by
  unfold g_28 at hF
  refine jl_aload_n E dL_law_1072 1 rfl ?_
  refine jl_aload_n E dL_law_1073 0 rfl ?_
  refine jl_iload_n E dL_law_1074 3 rfl ?_
  refine jl_iconst (x := 1) E dL_law_1075 (by decide) ?_
  refine jl_iadd E dL_law_1076 ?_
  refine jl_sld E dL_law_1077 h1 ?_
  obtain ⟨⟨r1, v1⟩, hc1, hF⟩ := jx_bind hF
  try dsimp only at hF
  refine jl_callX (As := [.int (xs (x3 + 1).toNatClampNeg)]) (st := []) E dL_law_1078 1 rfl (k_X4_cheapest (jl_inj E.2.2.2.2.2.2.2.2.2.1) (xs (x3 + 1).toNatClampNeg) v r1 v1 hc1) (gl_V tw_860 tw_861 tw_862 tw_190 tw_863) rfl rfl dd_X4_cheapest rfl ⟨by decide, by decide⟩ hf (Nat.le_of_ble_eq_true rfl) ?_
  refine jl_pop E dL_law_1081 rfl ?_
  refine jl_aload_n E dL_law_1082 2 rfl ?_
  refine jl_aload_n E dL_law_1083 0 rfl ?_
  refine jl_iload_n E dL_law_1084 3 rfl ?_
  refine jl_iconst (x := 1) E dL_law_1085 (by decide) ?_
  refine jl_iadd E dL_law_1086 ?_
  refine jl_sld E dL_law_1087 h1 ?_
  obtain ⟨⟨r2, w2⟩, hc2, hF⟩ := jx_bind hF
  try dsimp only at hF
  refine jl_callM (As := [.int (xs (x3 + 1).toNatClampNeg)]) (st := []) E dL_law_1088 1 rfl (k_X5_cheapest (jl_inj E.2.2.2.2.2.2.2.2.2.2.1) (xs (x3 + 1).toNatClampNeg) w r2 w2 hc2) (gl_V tw_864 tw_865 tw_866 tw_325 tw_867) rfl rfl dd_X5_cheapest rfl ⟨by decide, by decide⟩ hf (Nat.le_of_ble_eq_true rfl) ?_
  refine jl_pop E dL_law_1091 rfl ?_
  refine jl_goto (tgt := 1698) E dL_law_1092 (by decide) ?_
  obtain ⟨rfl, rfl⟩ := jx_out hF
  exact kend
def g_29 (a1 a2 a3 a4 a5 : Int32) (v w : jx_V) : Option (jx_V × jx_V) := ((f_X4_site a1 a2 a3 v).bind (fun (r1, v1) => ((f_X5_site a1 a2 a3 w).bind (fun (r2, w2) => (some (v1, w2))))))
set_option maxHeartbeats 4000000 in
set_option maxRecDepth 100000 in
theorem lc_29 {p : Program} {l : Launch} {e : Env} {s : State} {m : MethodId} {args : Array Value} {below : List Frame} {meth : Method} {c : Code} {Q : State → Prop} {D : va_G} {cI cJ : ClassId} {adX adM adK adV : Nat → Nat} {A : Nat → Prop} {kc ks b L : Nat} {xs : Nat → Int32} (E : jl_E p s m args c D cI cJ adX adM adK adV A b L xs) (x3 : Int32) (h1 : vp_in (x3 + 1) L) (h2 : vp_in (x3 + 2) L) (h3 : vp_in (x3 + 3) L) (h4 : vp_in (x3 + 4) L) (h5 : vp_in (x3 + 5) L) (v w v' w' : jx_V) (hf : kc ≤ room_1.cells ∧ ks ≤ room_1.slots) (hF : g_29 (xs (x3 + 1).toNatClampNeg) (xs (x3 + 2).toNatClampNeg) (xs (x3 + 3).toNatClampNeg) (xs (x3 + 4).toNatClampNeg) (xs (x3 + 5).toNatClampNeg) v w = some (v', w')) (kend : jl_J p l e room_1 s m args below meth c D cI cJ adX adM A kc ks Q v' w' 1698 [(0, .ref b), (1, .ref (adX 0)), (2, .ref (adM 0)), (3, .int x3)] []) : jl_J p l e room_1 s m args below meth c D cI cJ adX adM A kc ks Q v w 1095 [(0, .ref b), (1, .ref (adX 0)), (2, .ref (adM 0)), (3, .int x3)] [] := by
  unfold g_29 at hF
  refine jl_aload_n E dL_law_1095 1 rfl ?_
  refine jl_aload_n E dL_law_1096 0 rfl ?_
  refine jl_iload_n E dL_law_1097 3 rfl ?_
  refine jl_iconst (x := 1) E dL_law_1098 (by decide) ?_
  refine jl_iadd E dL_law_1099 ?_
  refine jl_sld E dL_law_1100 h1 ?_
  refine jl_aload_n E dL_law_1101 0 rfl ?_
  refine jl_iload_n E dL_law_1102 3 rfl ?_
  refine jl_iconst (x := 2) E dL_law_1103 (by decide) ?_
  refine jl_iadd E dL_law_1104 ?_
  refine jl_sld E dL_law_1105 h2 ?_
  refine jl_aload_n E dL_law_1106 0 rfl ?_
  refine jl_iload_n E dL_law_1107 3 rfl ?_
  refine jl_iconst (x := 3) E dL_law_1108 (by decide) ?_
  refine jl_iadd E dL_law_1109 ?_
  refine jl_sld E dL_law_1110 h3 ?_
  obtain ⟨⟨r1, v1⟩, hc1, hF⟩ := jx_bind hF
  try dsimp only at hF
  refine jl_callX (As := [.int (xs (x3 + 1).toNatClampNeg), .int (xs (x3 + 2).toNatClampNeg), .int (xs (x3 + 3).toNatClampNeg)]) (st := []) E dL_law_1111 3 rfl (k_X4_site (jl_inj E.2.2.2.2.2.2.2.2.2.1) (xs (x3 + 1).toNatClampNeg) (xs (x3 + 2).toNatClampNeg) (xs (x3 + 3).toNatClampNeg) v r1 v1 hc1) (gl_V tw_868 tw_869 tw_870 tw_190 tw_871) rfl rfl dd_X4_site rfl ⟨by decide, by decide⟩ hf (Nat.le_of_ble_eq_true rfl) ?_
  refine jl_pop E dL_law_1114 rfl ?_
  refine jl_aload_n E dL_law_1115 2 rfl ?_
  refine jl_aload_n E dL_law_1116 0 rfl ?_
  refine jl_iload_n E dL_law_1117 3 rfl ?_
  refine jl_iconst (x := 1) E dL_law_1118 (by decide) ?_
  refine jl_iadd E dL_law_1119 ?_
  refine jl_sld E dL_law_1120 h1 ?_
  refine jl_aload_n E dL_law_1121 0 rfl ?_
  refine jl_iload_n E dL_law_1122 3 rfl ?_
  refine jl_iconst (x := 2) E dL_law_1123 (by decide) ?_
  refine jl_iadd E dL_law_1124 ?_
  refine jl_sld E dL_law_1125 h2 ?_
  refine jl_aload_n E dL_law_1126 0 rfl ?_
  refine jl_iload_n E dL_law_1127 3 rfl ?_
  refine jl_iconst (x := 3) E dL_law_1128 (by decide) ?_
  refine jl_iadd E dL_law_1129 ?_
  refine jl_sld E dL_law_1130 h3 ?_
  obtain ⟨⟨r2, w2⟩, hc2, hF⟩ := jx_bind hF
  try dsimp only at hF
  refine jl_callM (As := [.int (xs (x3 + 1).toNatClampNeg), .int (xs (x3 + 2).toNatClampNeg), .int (xs (x3 + 3).toNatClampNeg)]) (st := []) E dL_law_1131 3 rfl (k_X5_site (jl_inj E.2.2.2.2.2.2.2.2.2.2.1) (xs (x3 + 1).toNatClampNeg) (xs (x3 + 2).toNatClampNeg) (xs (x3 + 3).toNatClampNeg) w r2 w2 hc2) (gl_V tw_872 tw_873 tw_874 tw_325 tw_875) rfl rfl dd_X5_site rfl ⟨by decide, by decide⟩ hf (Nat.le_of_ble_eq_true rfl) ?_
  refine jl_pop E dL_law_1134 rfl ?_
  refine jl_goto (tgt := 1698) E dL_law_1135 (by decide) ?_
  obtain ⟨rfl, rfl⟩ := jx_out hF
  exact kend
def g_30 (a1 a2 a3 a4 a5 : Int32) (v w : jx_V) : Option (jx_V × jx_V) := ((f_X4_worst a1 v).bind (fun (r1, v1) => ((f_X5_worst a1 w).bind (fun (r2, w2) => (some (v1, w2))))))
set_option maxHeartbeats 4000000 in
set_option maxRecDepth 100000 in
theorem lc_30 {p : Program} {l : Launch} {e : Env} {s : State} {m : MethodId} {args : Array Value} {below : List Frame} {meth : Method} {c : Code} {Q : State → Prop} {D : va_G} {cI cJ : ClassId} {adX adM adK adV : Nat → Nat} {A : Nat → Prop} {kc ks b L : Nat} {xs : Nat → Int32} (E : jl_E p s m args c D cI cJ adX adM adK adV A b L xs) (x3 : Int32) (h1 : vp_in (x3 + 1) L) (h2 : vp_in (x3 + 2) L) (h3 : vp_in (x3 + 3) L) (h4 : vp_in (x3 + 4) L) (h5 : vp_in (x3 + 5) L) (v w v' w' : jx_V) (hf : kc ≤ room_1.cells ∧ ks ≤ room_1.slots) (hF : g_30 (xs (x3 + 1).toNatClampNeg) (xs (x3 + 2).toNatClampNeg) (xs (x3 + 3).toNatClampNeg) (xs (x3 + 4).toNatClampNeg) (xs (x3 + 5).toNatClampNeg) v w = some (v', w')) (kend : jl_J p l e room_1 s m args below meth c D cI cJ adX adM A kc ks Q v' w' 1698 [(0, .ref b), (1, .ref (adX 0)), (2, .ref (adM 0)), (3, .int x3)] []) : jl_J p l e room_1 s m args below meth c D cI cJ adX adM A kc ks Q v w 1138 [(0, .ref b), (1, .ref (adX 0)), (2, .ref (adM 0)), (3, .int x3)] [] := by
  unfold g_30 at hF
  refine jl_aload_n E dL_law_1138 1 rfl ?_
  refine jl_aload_n E dL_law_1139 0 rfl ?_
  refine jl_iload_n E dL_law_1140 3 rfl ?_
  refine jl_iconst (x := 1) E dL_law_1141 (by decide) ?_
  refine jl_iadd E dL_law_1142 ?_
  refine jl_sld E dL_law_1143 h1 ?_
  obtain ⟨⟨r1, v1⟩, hc1, hF⟩ := jx_bind hF
  try dsimp only at hF
  refine jl_callX (As := [.int (xs (x3 + 1).toNatClampNeg)]) (st := []) E dL_law_1144 1 rfl (k_X4_worst (jl_inj E.2.2.2.2.2.2.2.2.2.1) (xs (x3 + 1).toNatClampNeg) v r1 v1 hc1) (gl_V tw_876 tw_877 tw_878 tw_190 tw_879) rfl rfl dd_X4_worst rfl ⟨by decide, by decide⟩ hf (Nat.le_of_ble_eq_true rfl) ?_
  refine jl_pop E dL_law_1147 rfl ?_
  refine jl_aload_n E dL_law_1148 2 rfl ?_
  refine jl_aload_n E dL_law_1149 0 rfl ?_
  refine jl_iload_n E dL_law_1150 3 rfl ?_
  refine jl_iconst (x := 1) E dL_law_1151 (by decide) ?_
  refine jl_iadd E dL_law_1152 ?_
  refine jl_sld E dL_law_1153 h1 ?_
  obtain ⟨⟨r2, w2⟩, hc2, hF⟩ := jx_bind hF
  try dsimp only at hF
  refine jl_callM (As := [.int (xs (x3 + 1).toNatClampNeg)]) (st := []) E dL_law_1154 1 rfl (k_X5_worst (jl_inj E.2.2.2.2.2.2.2.2.2.2.1) (xs (x3 + 1).toNatClampNeg) w r2 w2 hc2) (gl_V tw_880 tw_881 tw_882 tw_325 tw_883) rfl rfl dd_X5_worst rfl ⟨by decide, by decide⟩ hf (Nat.le_of_ble_eq_true rfl) ?_
  refine jl_pop E dL_law_1157 rfl ?_
  refine jl_goto (tgt := 1698) E dL_law_1158 (by decide) ?_
  obtain ⟨rfl, rfl⟩ := jx_out hF
  exact kend
def g_31 (a1 a2 a3 a4 a5 : Int32) (v w : jx_V) : Option (jx_V × jx_V) := ((f_X4_trade a1 a2 v).bind (fun (r1, v1) => ((f_X5_trade a1 a2 w).bind (fun (r2, w2) => (some (v1, w2))))))
set_option maxHeartbeats 4000000 in
set_option maxRecDepth 100000 in
theorem lc_31 {p : Program} {l : Launch} {e : Env} {s : State} {m : MethodId} {args : Array Value} {below : List Frame} {meth : Method} {c : Code} {Q : State → Prop} {D : va_G} {cI cJ : ClassId} {adX adM adK adV : Nat → Nat} {A : Nat → Prop} {kc ks b L : Nat} {xs : Nat → Int32} (E : jl_E p s m args c D cI cJ adX adM adK adV A b L xs) (x3 : Int32) (h1 : vp_in (x3 + 1) L) (h2 : vp_in (x3 + 2) L) (h3 : vp_in (x3 + 3) L) (h4 : vp_in (x3 + 4) L) (h5 : vp_in (x3 + 5) L) (v w v' w' : jx_V) (hf : kc ≤ room_1.cells ∧ ks ≤ room_1.slots) (hF : g_31 (xs (x3 + 1).toNatClampNeg) (xs (x3 + 2).toNatClampNeg) (xs (x3 + 3).toNatClampNeg) (xs (x3 + 4).toNatClampNeg) (xs (x3 + 5).toNatClampNeg) v w = some (v', w')) (kend : jl_J p l e room_1 s m args below meth c D cI cJ adX adM A kc ks Q v' w' 1698 [(0, .ref b), (1, .ref (adX 0)), (2, .ref (adM 0)), (3, .int x3)] []) : jl_J p l e room_1 s m args below meth c D cI cJ adX adM A kc ks Q v w 1161 [(0, .ref b), (1, .ref (adX 0)), (2, .ref (adM 0)), (3, .int x3)] [] := by
  unfold g_31 at hF
  refine jl_aload_n E dL_law_1161 1 rfl ?_
  refine jl_aload_n E dL_law_1162 0 rfl ?_
  refine jl_iload_n E dL_law_1163 3 rfl ?_
  refine jl_iconst (x := 1) E dL_law_1164 (by decide) ?_
  refine jl_iadd E dL_law_1165 ?_
  refine jl_sld E dL_law_1166 h1 ?_
  refine jl_aload_n E dL_law_1167 0 rfl ?_
  refine jl_iload_n E dL_law_1168 3 rfl ?_
  refine jl_iconst (x := 2) E dL_law_1169 (by decide) ?_
  refine jl_iadd E dL_law_1170 ?_
  refine jl_sld E dL_law_1171 h2 ?_
  obtain ⟨⟨r1, v1⟩, hc1, hF⟩ := jx_bind hF
  try dsimp only at hF
  refine jl_callX (As := [.int (xs (x3 + 1).toNatClampNeg), .int (xs (x3 + 2).toNatClampNeg)]) (st := []) E dL_law_1172 2 rfl (k_X4_trade (jl_inj E.2.2.2.2.2.2.2.2.2.1) (xs (x3 + 1).toNatClampNeg) (xs (x3 + 2).toNatClampNeg) v r1 v1 hc1) (gl_V tw_884 tw_885 tw_886 tw_190 tw_887) rfl rfl dd_X4_trade rfl ⟨by decide, by decide⟩ hf (Nat.le_of_ble_eq_true rfl) ?_
  refine jl_pop E dL_law_1175 rfl ?_
  refine jl_aload_n E dL_law_1176 2 rfl ?_
  refine jl_aload_n E dL_law_1177 0 rfl ?_
  refine jl_iload_n E dL_law_1178 3 rfl ?_
  refine jl_iconst (x := 1) E dL_law_1179 (by decide) ?_
  refine jl_iadd E dL_law_1180 ?_
  refine jl_sld E dL_law_1181 h1 ?_
  refine jl_aload_n E dL_law_1182 0 rfl ?_
  refine jl_iload_n E dL_law_1183 3 rfl ?_
  refine jl_iconst (x := 2) E dL_law_1184 (by decide) ?_
  refine jl_iadd E dL_law_1185 ?_
  refine jl_sld E dL_law_1186 h2 ?_
  obtain ⟨⟨r2, w2⟩, hc2, hF⟩ := jx_bind hF
  try dsimp only at hF
  refine jl_callM (As := [.int (xs (x3 + 1).toNatClampNeg), .int (xs (x3 + 2).toNatClampNeg)]) (st := []) E dL_law_1187 2 rfl (k_X5_trade (jl_inj E.2.2.2.2.2.2.2.2.2.2.1) (xs (x3 + 1).toNatClampNeg) (xs (x3 + 2).toNatClampNeg) w r2 w2 hc2) (gl_V tw_888 tw_889 tw_890 tw_325 tw_891) rfl rfl dd_X5_trade rfl ⟨by decide, by decide⟩ hf (Nat.le_of_ble_eq_true rfl) ?_
  refine jl_pop E dL_law_1190 rfl ?_
  refine jl_goto (tgt := 1698) E dL_law_1191 (by decide) ?_
  obtain ⟨rfl, rfl⟩ := jx_out hF
  exact kend
def g_32 (a1 a2 a3 a4 a5 : Int32) (v w : jx_V) : Option (jx_V × jx_V) := ((f_X4_swap a1 a2 v).bind (fun (r1, v1) => ((f_X5_swap a1 a2 w).bind (fun (r2, w2) => (some (v1, w2))))))
set_option maxHeartbeats 4000000 in
set_option maxRecDepth 100000 in
theorem lc_32 {p : Program} {l : Launch} {e : Env} {s : State} {m : MethodId} {args : Array Value} {below : List Frame} {meth : Method} {c : Code} {Q : State → Prop} {D : va_G} {cI cJ : ClassId} {adX adM adK adV : Nat → Nat} {A : Nat → Prop} {kc ks b L : Nat} {xs : Nat → Int32} (E : jl_E p s m args c D cI cJ adX adM adK adV A b L xs) (x3 : Int32) (h1 : vp_in (x3 + 1) L) (h2 : vp_in (x3 + 2) L) (h3 : vp_in (x3 + 3) L) (h4 : vp_in (x3 + 4) L) (h5 : vp_in (x3 + 5) L) (v w v' w' : jx_V) (hf : kc ≤ room_1.cells ∧ ks ≤ room_1.slots) (hF : g_32 (xs (x3 + 1).toNatClampNeg) (xs (x3 + 2).toNatClampNeg) (xs (x3 + 3).toNatClampNeg) (xs (x3 + 4).toNatClampNeg) (xs (x3 + 5).toNatClampNeg) v w = some (v', w')) (kend : jl_J p l e room_1 s m args below meth c D cI cJ adX adM A kc ks Q v' w' 1698 [(0, .ref b), (1, .ref (adX 0)), (2, .ref (adM 0)), (3, .int x3)] []) : jl_J p l e room_1 s m args below meth c D cI cJ adX adM A kc ks Q v w 1194 [(0, .ref b), (1, .ref (adX 0)), (2, .ref (adM 0)), (3, .int x3)] [] := by
  unfold g_32 at hF
  refine jl_aload_n E dL_law_1194 1 rfl ?_
  refine jl_aload_n E dL_law_1195 0 rfl ?_
  refine jl_iload_n E dL_law_1196 3 rfl ?_
  refine jl_iconst (x := 1) E dL_law_1197 (by decide) ?_
  refine jl_iadd E dL_law_1198 ?_
  refine jl_sld E dL_law_1199 h1 ?_
  refine jl_aload_n E dL_law_1200 0 rfl ?_
  refine jl_iload_n E dL_law_1201 3 rfl ?_
  refine jl_iconst (x := 2) E dL_law_1202 (by decide) ?_
  refine jl_iadd E dL_law_1203 ?_
  refine jl_sld E dL_law_1204 h2 ?_
  obtain ⟨⟨r1, v1⟩, hc1, hF⟩ := jx_bind hF
  try dsimp only at hF
  refine jl_callX (As := [.int (xs (x3 + 1).toNatClampNeg), .int (xs (x3 + 2).toNatClampNeg)]) (st := []) E dL_law_1205 2 rfl (k_X4_swap (jl_inj E.2.2.2.2.2.2.2.2.2.1) (xs (x3 + 1).toNatClampNeg) (xs (x3 + 2).toNatClampNeg) v r1 v1 hc1) (gl_V tw_892 tw_893 tw_894 tw_190 tw_895) rfl rfl dd_X4_swap rfl ⟨by decide, by decide⟩ hf (Nat.le_of_ble_eq_true rfl) ?_
  refine jl_pop E dL_law_1208 rfl ?_
  refine jl_aload_n E dL_law_1209 2 rfl ?_
  refine jl_aload_n E dL_law_1210 0 rfl ?_
  refine jl_iload_n E dL_law_1211 3 rfl ?_
  refine jl_iconst (x := 1) E dL_law_1212 (by decide) ?_
  refine jl_iadd E dL_law_1213 ?_
  refine jl_sld E dL_law_1214 h1 ?_
  refine jl_aload_n E dL_law_1215 0 rfl ?_
  refine jl_iload_n E dL_law_1216 3 rfl ?_
  refine jl_iconst (x := 2) E dL_law_1217 (by decide) ?_
  refine jl_iadd E dL_law_1218 ?_
  refine jl_sld E dL_law_1219 h2 ?_
  obtain ⟨⟨r2, w2⟩, hc2, hF⟩ := jx_bind hF
  try dsimp only at hF
  refine jl_callM (As := [.int (xs (x3 + 1).toNatClampNeg), .int (xs (x3 + 2).toNatClampNeg)]) (st := []) E dL_law_1220 2 rfl (k_X5_swap (jl_inj E.2.2.2.2.2.2.2.2.2.2.1) (xs (x3 + 1).toNatClampNeg) (xs (x3 + 2).toNatClampNeg) w r2 w2 hc2) (gl_V tw_896 tw_897 tw_898 tw_325 tw_899) rfl rfl dd_X5_swap rfl ⟨by decide, by decide⟩ hf (Nat.le_of_ble_eq_true rfl) ?_
  refine jl_pop E dL_law_1223 rfl ?_
  refine jl_goto (tgt := 1698) E dL_law_1224 (by decide) ?_
  obtain ⟨rfl, rfl⟩ := jx_out hF
  exact kend
def g_33 (a1 a2 a3 a4 a5 : Int32) (v w : jx_V) : Option (jx_V × jx_V) := ((f_X4_spill a1 v).bind (fun (r1, v1) => ((f_X5_spill a1 w).bind (fun (r2, w2) => (some (v1, w2))))))
set_option maxHeartbeats 4000000 in
set_option maxRecDepth 100000 in
theorem lc_33 {p : Program} {l : Launch} {e : Env} {s : State} {m : MethodId} {args : Array Value} {below : List Frame} {meth : Method} {c : Code} {Q : State → Prop} {D : va_G} {cI cJ : ClassId} {adX adM adK adV : Nat → Nat} {A : Nat → Prop} {kc ks b L : Nat} {xs : Nat → Int32} (E : jl_E p s m args c D cI cJ adX adM adK adV A b L xs) (x3 : Int32) (h1 : vp_in (x3 + 1) L) (h2 : vp_in (x3 + 2) L) (h3 : vp_in (x3 + 3) L) (h4 : vp_in (x3 + 4) L) (h5 : vp_in (x3 + 5) L) (v w v' w' : jx_V) (hf : kc ≤ room_1.cells ∧ ks ≤ room_1.slots) (hF : g_33 (xs (x3 + 1).toNatClampNeg) (xs (x3 + 2).toNatClampNeg) (xs (x3 + 3).toNatClampNeg) (xs (x3 + 4).toNatClampNeg) (xs (x3 + 5).toNatClampNeg) v w = some (v', w')) (kend : jl_J p l e room_1 s m args below meth c D cI cJ adX adM A kc ks Q v' w' 1698 [(0, .ref b), (1, .ref (adX 0)), (2, .ref (adM 0)), (3, .int x3)] []) : jl_J p l e room_1 s m args below meth c D cI cJ adX adM A kc ks Q v w 1227 [(0, .ref b), (1, .ref (adX 0)), (2, .ref (adM 0)), (3, .int x3)] [] := by
  unfold g_33 at hF
  refine jl_aload_n E dL_law_1227 1 rfl ?_
  refine jl_aload_n E dL_law_1228 0 rfl ?_
  refine jl_iload_n E dL_law_1229 3 rfl ?_
  refine jl_iconst (x := 1) E dL_law_1230 (by decide) ?_
  refine jl_iadd E dL_law_1231 ?_
  refine jl_sld E dL_law_1232 h1 ?_
  obtain ⟨⟨r1, v1⟩, hc1, hF⟩ := jx_bind hF
  try dsimp only at hF
  refine jl_callX (As := [.int (xs (x3 + 1).toNatClampNeg)]) (st := []) E dL_law_1233 1 rfl (k_X4_spill (jl_inj E.2.2.2.2.2.2.2.2.2.1) (xs (x3 + 1).toNatClampNeg) v r1 v1 hc1) (gl_V tw_900 tw_901 tw_902 tw_190 tw_903) rfl rfl dd_X4_spill rfl ⟨by decide, by decide⟩ hf (Nat.le_of_ble_eq_true rfl) ?_
  refine jl_pop E dL_law_1236 rfl ?_
  refine jl_aload_n E dL_law_1237 2 rfl ?_
  refine jl_aload_n E dL_law_1238 0 rfl ?_
  refine jl_iload_n E dL_law_1239 3 rfl ?_
  refine jl_iconst (x := 1) E dL_law_1240 (by decide) ?_
  refine jl_iadd E dL_law_1241 ?_
  refine jl_sld E dL_law_1242 h1 ?_
  obtain ⟨⟨r2, w2⟩, hc2, hF⟩ := jx_bind hF
  try dsimp only at hF
  refine jl_callM (As := [.int (xs (x3 + 1).toNatClampNeg)]) (st := []) E dL_law_1243 1 rfl (k_X5_spill (jl_inj E.2.2.2.2.2.2.2.2.2.2.1) (xs (x3 + 1).toNatClampNeg) w r2 w2 hc2) (gl_V tw_904 tw_905 tw_906 tw_325 tw_907) rfl rfl dd_X5_spill rfl ⟨by decide, by decide⟩ hf (Nat.le_of_ble_eq_true rfl) ?_
  refine jl_pop E dL_law_1246 rfl ?_
  refine jl_goto (tgt := 1698) E dL_law_1247 (by decide) ?_
  obtain ⟨rfl, rfl⟩ := jx_out hF
  exact kend
def g_34 (a1 a2 a3 a4 a5 : Int32) (v w : jx_V) : Option (jx_V × jx_V) := ((f_X4_seed a1 v).bind (fun (r1, v1) => ((f_X5_seed a1 w).bind (fun (r2, w2) => (some (v1, w2))))))
set_option maxHeartbeats 4000000 in
set_option maxRecDepth 100000 in
theorem lc_34 {p : Program} {l : Launch} {e : Env} {s : State} {m : MethodId} {args : Array Value} {below : List Frame} {meth : Method} {c : Code} {Q : State → Prop} {D : va_G} {cI cJ : ClassId} {adX adM adK adV : Nat → Nat} {A : Nat → Prop} {kc ks b L : Nat} {xs : Nat → Int32} (E : jl_E p s m args c D cI cJ adX adM adK adV A b L xs) (x3 : Int32) (h1 : vp_in (x3 + 1) L) (h2 : vp_in (x3 + 2) L) (h3 : vp_in (x3 + 3) L) (h4 : vp_in (x3 + 4) L) (h5 : vp_in (x3 + 5) L) (v w v' w' : jx_V) (hf : kc ≤ room_1.cells ∧ ks ≤ room_1.slots) (hF : g_34 (xs (x3 + 1).toNatClampNeg) (xs (x3 + 2).toNatClampNeg) (xs (x3 + 3).toNatClampNeg) (xs (x3 + 4).toNatClampNeg) (xs (x3 + 5).toNatClampNeg) v w = some (v', w')) (kend : jl_J p l e room_1 s m args below meth c D cI cJ adX adM A kc ks Q v' w' 1698 [(0, .ref b), (1, .ref (adX 0)), (2, .ref (adM 0)), (3, .int x3)] []) : jl_J p l e room_1 s m args below meth c D cI cJ adX adM A kc ks Q v w 1250 [(0, .ref b), (1, .ref (adX 0)), (2, .ref (adM 0)), (3, .int x3)] [] := by
  unfold g_34 at hF
  refine jl_aload_n E dL_law_1250 1 rfl ?_
  refine jl_aload_n E dL_law_1251 0 rfl ?_
  refine jl_iload_n E dL_law_1252 3 rfl ?_
  refine jl_iconst (x := 1) E dL_law_1253 (by decide) ?_
  refine jl_iadd E dL_law_1254 ?_
  refine jl_sld E dL_law_1255 h1 ?_
  obtain ⟨⟨r1, v1⟩, hc1, hF⟩ := jx_bind hF
  try dsimp only at hF
  refine jl_callX (As := [.int (xs (x3 + 1).toNatClampNeg)]) (st := []) E dL_law_1256 1 rfl (k_X4_seed (jl_inj E.2.2.2.2.2.2.2.2.2.1) (xs (x3 + 1).toNatClampNeg) v r1 v1 hc1) (gl_V tw_908 tw_909 tw_910 tw_190 tw_911) rfl rfl dd_X4_seed rfl ⟨by decide, by decide⟩ hf (Nat.le_of_ble_eq_true rfl) ?_
  refine jl_pop E dL_law_1259 rfl ?_
  refine jl_aload_n E dL_law_1260 2 rfl ?_
  refine jl_aload_n E dL_law_1261 0 rfl ?_
  refine jl_iload_n E dL_law_1262 3 rfl ?_
  refine jl_iconst (x := 1) E dL_law_1263 (by decide) ?_
  refine jl_iadd E dL_law_1264 ?_
  refine jl_sld E dL_law_1265 h1 ?_
  obtain ⟨⟨r2, w2⟩, hc2, hF⟩ := jx_bind hF
  try dsimp only at hF
  refine jl_callM (As := [.int (xs (x3 + 1).toNatClampNeg)]) (st := []) E dL_law_1266 1 rfl (k_X5_seed (jl_inj E.2.2.2.2.2.2.2.2.2.2.1) (xs (x3 + 1).toNatClampNeg) w r2 w2 hc2) (gl_V tw_912 tw_913 tw_914 tw_325 tw_915) rfl rfl dd_X5_seed rfl ⟨by decide, by decide⟩ hf (Nat.le_of_ble_eq_true rfl) ?_
  refine jl_pop E dL_law_1269 rfl ?_
  refine jl_goto (tgt := 1698) E dL_law_1270 (by decide) ?_
  obtain ⟨rfl, rfl⟩ := jx_out hF
  exact kend
def g_35 (a1 a2 a3 a4 a5 : Int32) (v w : jx_V) : Option (jx_V × jx_V) := ((f_X4_feed a1 a2 v).bind (fun (r1, v1) => ((f_X5_feed a1 a2 w).bind (fun (r2, w2) => (some (v1, w2))))))
set_option maxHeartbeats 4000000 in
set_option maxRecDepth 100000 in
theorem lc_35 {p : Program} {l : Launch} {e : Env} {s : State} {m : MethodId} {args : Array Value} {below : List Frame} {meth : Method} {c : Code} {Q : State → Prop} {D : va_G} {cI cJ : ClassId} {adX adM adK adV : Nat → Nat} {A : Nat → Prop} {kc ks b L : Nat} {xs : Nat → Int32} (E : jl_E p s m args c D cI cJ adX adM adK adV A b L xs) (x3 : Int32) (h1 : vp_in (x3 + 1) L) (h2 : vp_in (x3 + 2) L) (h3 : vp_in (x3 + 3) L) (h4 : vp_in (x3 + 4) L) (h5 : vp_in (x3 + 5) L) (v w v' w' : jx_V) (hf : kc ≤ room_1.cells ∧ ks ≤ room_1.slots) (hF : g_35 (xs (x3 + 1).toNatClampNeg) (xs (x3 + 2).toNatClampNeg) (xs (x3 + 3).toNatClampNeg) (xs (x3 + 4).toNatClampNeg) (xs (x3 + 5).toNatClampNeg) v w = some (v', w')) (kend : jl_J p l e room_1 s m args below meth c D cI cJ adX adM A kc ks Q v' w' 1698 [(0, .ref b), (1, .ref (adX 0)), (2, .ref (adM 0)), (3, .int x3)] []) : jl_J p l e room_1 s m args below meth c D cI cJ adX adM A kc ks Q v w 1273 [(0, .ref b), (1, .ref (adX 0)), (2, .ref (adM 0)), (3, .int x3)] [] := by
  unfold g_35 at hF
  refine jl_aload_n E dL_law_1273 1 rfl ?_
  refine jl_aload_n E dL_law_1274 0 rfl ?_
  refine jl_iload_n E dL_law_1275 3 rfl ?_
  refine jl_iconst (x := 1) E dL_law_1276 (by decide) ?_
  refine jl_iadd E dL_law_1277 ?_
  refine jl_sld E dL_law_1278 h1 ?_
  refine jl_aload_n E dL_law_1279 0 rfl ?_
  refine jl_iload_n E dL_law_1280 3 rfl ?_
  refine jl_iconst (x := 2) E dL_law_1281 (by decide) ?_
  refine jl_iadd E dL_law_1282 ?_
  refine jl_sld E dL_law_1283 h2 ?_
  obtain ⟨⟨r1, v1⟩, hc1, hF⟩ := jx_bind hF
  try dsimp only at hF
  refine jl_callX (As := [.int (xs (x3 + 1).toNatClampNeg), .int (xs (x3 + 2).toNatClampNeg)]) (st := []) E dL_law_1284 2 rfl (k_X4_feed (jl_inj E.2.2.2.2.2.2.2.2.2.1) (xs (x3 + 1).toNatClampNeg) (xs (x3 + 2).toNatClampNeg) v r1 v1 hc1) (gl_V tw_916 tw_917 tw_918 tw_190 tw_919) rfl rfl dd_X4_feed rfl ⟨by decide, by decide⟩ hf (Nat.le_of_ble_eq_true rfl) ?_
  refine jl_pop E dL_law_1287 rfl ?_
  refine jl_aload_n E dL_law_1288 2 rfl ?_
  refine jl_aload_n E dL_law_1289 0 rfl ?_
  refine jl_iload_n E dL_law_1290 3 rfl ?_
  refine jl_iconst (x := 1) E dL_law_1291 (by decide) ?_
  refine jl_iadd E dL_law_1292 ?_
  refine jl_sld E dL_law_1293 h1 ?_
  refine jl_aload_n E dL_law_1294 0 rfl ?_
  refine jl_iload_n E dL_law_1295 3 rfl ?_
  refine jl_iconst (x := 2) E dL_law_1296 (by decide) ?_
  refine jl_iadd E dL_law_1297 ?_
  refine jl_sld E dL_law_1298 h2 ?_
  obtain ⟨⟨r2, w2⟩, hc2, hF⟩ := jx_bind hF
  try dsimp only at hF
  refine jl_callM (As := [.int (xs (x3 + 1).toNatClampNeg), .int (xs (x3 + 2).toNatClampNeg)]) (st := []) E dL_law_1299 2 rfl (k_X5_feed (jl_inj E.2.2.2.2.2.2.2.2.2.2.1) (xs (x3 + 1).toNatClampNeg) (xs (x3 + 2).toNatClampNeg) w r2 w2 hc2) (gl_V tw_920 tw_921 tw_922 tw_325 tw_923) rfl rfl dd_X5_feed rfl ⟨by decide, by decide⟩ hf (Nat.le_of_ble_eq_true rfl) ?_
  refine jl_pop E dL_law_1302 rfl ?_
  refine jl_goto (tgt := 1698) E dL_law_1303 (by decide) ?_
  obtain ⟨rfl, rfl⟩ := jx_out hF
  exact kend
def g_36 (a1 a2 a3 a4 a5 : Int32) (v w : jx_V) : Option (jx_V × jx_V) := ((f_X4_wipe  v).bind (fun (r1, v1) => ((f_X5_wipe  w).bind (fun (r2, w2) => (some (v1, w2))))))
set_option maxHeartbeats 4000000 in
set_option maxRecDepth 100000 in
theorem lc_36 {p : Program} {l : Launch} {e : Env} {s : State} {m : MethodId} {args : Array Value} {below : List Frame} {meth : Method} {c : Code} {Q : State → Prop} {D : va_G} {cI cJ : ClassId} {adX adM adK adV : Nat → Nat} {A : Nat → Prop} {kc ks b L : Nat} {xs : Nat → Int32} (E : jl_E p s m args c D cI cJ adX adM adK adV A b L xs) (x3 : Int32) (h1 : vp_in (x3 + 1) L) (h2 : vp_in (x3 + 2) L) (h3 : vp_in (x3 + 3) L) (h4 : vp_in (x3 + 4) L) (h5 : vp_in (x3 + 5) L) (v w v' w' : jx_V) (hf : kc ≤ room_1.cells ∧ ks ≤ room_1.slots) (hF : g_36 (xs (x3 + 1).toNatClampNeg) (xs (x3 + 2).toNatClampNeg) (xs (x3 + 3).toNatClampNeg) (xs (x3 + 4).toNatClampNeg) (xs (x3 + 5).toNatClampNeg) v w = some (v', w')) (kend : jl_J p l e room_1 s m args below meth c D cI cJ adX adM A kc ks Q v' w' 1698 [(0, .ref b), (1, .ref (adX 0)), (2, .ref (adM 0)), (3, .int x3)] []) : jl_J p l e room_1 s m args below meth c D cI cJ adX adM A kc ks Q v w 1306 [(0, .ref b), (1, .ref (adX 0)), (2, .ref (adM 0)), (3, .int x3)] [] := by
  unfold g_36 at hF
  refine jl_aload_n E dL_law_1306 1 rfl ?_
  obtain ⟨⟨r1, v1⟩, hc1, hF⟩ := jx_bind hF
  try dsimp only at hF
  refine jl_callX (As := []) (st := []) E dL_law_1307 0 rfl (k_X4_wipe (jl_inj E.2.2.2.2.2.2.2.2.2.1)  v r1 v1 hc1) (gl_V tw_924 tw_925 tw_926 tw_190 tw_927) rfl rfl dd_X4_wipe rfl ⟨by decide, by decide⟩ hf (Nat.le_of_ble_eq_true rfl) ?_
  refine jl_pop E dL_law_1310 rfl ?_
  refine jl_aload_n E dL_law_1311 2 rfl ?_
  obtain ⟨⟨r2, w2⟩, hc2, hF⟩ := jx_bind hF
  try dsimp only at hF
  refine jl_callM (As := []) (st := []) E dL_law_1312 0 rfl (k_X5_wipe (jl_inj E.2.2.2.2.2.2.2.2.2.2.1)  w r2 w2 hc2) (gl_V tw_928 tw_929 tw_930 tw_325 tw_931) rfl rfl dd_X5_wipe rfl ⟨by decide, by decide⟩ hf (Nat.le_of_ble_eq_true rfl) ?_
  refine jl_pop E dL_law_1315 rfl ?_
  refine jl_goto (tgt := 1698) E dL_law_1316 (by decide) ?_
  obtain ⟨rfl, rfl⟩ := jx_out hF
  exact kend
def g_37 (a1 a2 a3 a4 a5 : Int32) (v w : jx_V) : Option (jx_V × jx_V) := ((f_X4_text  v).bind (fun (r1, v1) => ((f_X5_text  w).bind (fun (r2, w2) => (some (v1, w2))))))
set_option maxHeartbeats 4000000 in
set_option maxRecDepth 100000 in
theorem lc_37 {p : Program} {l : Launch} {e : Env} {s : State} {m : MethodId} {args : Array Value} {below : List Frame} {meth : Method} {c : Code} {Q : State → Prop} {D : va_G} {cI cJ : ClassId} {adX adM adK adV : Nat → Nat} {A : Nat → Prop} {kc ks b L : Nat} {xs : Nat → Int32} (E : jl_E p s m args c D cI cJ adX adM adK adV A b L xs) (x3 : Int32) (h1 : vp_in (x3 + 1) L) (h2 : vp_in (x3 + 2) L) (h3 : vp_in (x3 + 3) L) (h4 : vp_in (x3 + 4) L) (h5 : vp_in (x3 + 5) L) (v w v' w' : jx_V) (hf : kc ≤ room_1.cells ∧ ks ≤ room_1.slots) (hF : g_37 (xs (x3 + 1).toNatClampNeg) (xs (x3 + 2).toNatClampNeg) (xs (x3 + 3).toNatClampNeg) (xs (x3 + 4).toNatClampNeg) (xs (x3 + 5).toNatClampNeg) v w = some (v', w')) (kend : jl_J p l e room_1 s m args below meth c D cI cJ adX adM A kc ks Q v' w' 1698 [(0, .ref b), (1, .ref (adX 0)), (2, .ref (adM 0)), (3, .int x3)] []) : jl_J p l e room_1 s m args below meth c D cI cJ adX adM A kc ks Q v w 1319 [(0, .ref b), (1, .ref (adX 0)), (2, .ref (adM 0)), (3, .int x3)] [] := by
  unfold g_37 at hF
  refine jl_aload_n E dL_law_1319 1 rfl ?_
  obtain ⟨⟨r1, v1⟩, hc1, hF⟩ := jx_bind hF
  try dsimp only at hF
  refine jl_callX (As := []) (st := []) E dL_law_1320 0 rfl (k_X4_text (jl_inj E.2.2.2.2.2.2.2.2.2.1)  v r1 v1 hc1) (gl_V tw_932 tw_933 tw_934 tw_190 tw_935) rfl rfl dd_X4_text rfl ⟨by decide, by decide⟩ hf (Nat.le_of_ble_eq_true rfl) ?_
  refine jl_pop E dL_law_1323 rfl ?_
  refine jl_aload_n E dL_law_1324 2 rfl ?_
  obtain ⟨⟨r2, w2⟩, hc2, hF⟩ := jx_bind hF
  try dsimp only at hF
  refine jl_callM (As := []) (st := []) E dL_law_1325 0 rfl (k_X5_text (jl_inj E.2.2.2.2.2.2.2.2.2.2.1)  w r2 w2 hc2) (gl_V tw_936 tw_937 tw_938 tw_325 tw_939) rfl rfl dd_X5_text rfl ⟨by decide, by decide⟩ hf (Nat.le_of_ble_eq_true rfl) ?_
  refine jl_pop E dL_law_1328 rfl ?_
  refine jl_goto (tgt := 1698) E dL_law_1329 (by decide) ?_
  obtain ⟨rfl, rfl⟩ := jx_out hF
  exact kend
def g_38 (a1 a2 a3 a4 a5 : Int32) (v w : jx_V) : Option (jx_V × jx_V) := ((f_X4_hold a1 a2 v).bind (fun (r1, v1) => ((f_X5_hold a1 a2 w).bind (fun (r2, w2) => (some (v1, w2))))))
set_option maxHeartbeats 4000000 in
set_option maxRecDepth 100000 in
theorem lc_38 {p : Program} {l : Launch} {e : Env} {s : State} {m : MethodId} {args : Array Value} {below : List Frame} {meth : Method} {c : Code} {Q : State → Prop} {D : va_G} {cI cJ : ClassId} {adX adM adK adV : Nat → Nat} {A : Nat → Prop} {kc ks b L : Nat} {xs : Nat → Int32} (E : jl_E p s m args c D cI cJ adX adM adK adV A b L xs) (x3 : Int32) (h1 : vp_in (x3 + 1) L) (h2 : vp_in (x3 + 2) L) (h3 : vp_in (x3 + 3) L) (h4 : vp_in (x3 + 4) L) (h5 : vp_in (x3 + 5) L) (v w v' w' : jx_V) (hf : kc ≤ room_1.cells ∧ ks ≤ room_1.slots) (hF : g_38 (xs (x3 + 1).toNatClampNeg) (xs (x3 + 2).toNatClampNeg) (xs (x3 + 3).toNatClampNeg) (xs (x3 + 4).toNatClampNeg) (xs (x3 + 5).toNatClampNeg) v w = some (v', w')) (kend : jl_J p l e room_1 s m args below meth c D cI cJ adX adM A kc ks Q v' w' 1698 [(0, .ref b), (1, .ref (adX 0)), (2, .ref (adM 0)), (3, .int x3)] []) : jl_J p l e room_1 s m args below meth c D cI cJ adX adM A kc ks Q v w 1332 [(0, .ref b), (1, .ref (adX 0)), (2, .ref (adM 0)), (3, .int x3)] [] := by
  unfold g_38 at hF
  refine jl_aload_n E dL_law_1332 1 rfl ?_
  refine jl_aload_n E dL_law_1333 0 rfl ?_
  refine jl_iload_n E dL_law_1334 3 rfl ?_
  refine jl_iconst (x := 1) E dL_law_1335 (by decide) ?_
  refine jl_iadd E dL_law_1336 ?_
  refine jl_sld E dL_law_1337 h1 ?_
  refine jl_aload_n E dL_law_1338 0 rfl ?_
  refine jl_iload_n E dL_law_1339 3 rfl ?_
  refine jl_iconst (x := 2) E dL_law_1340 (by decide) ?_
  refine jl_iadd E dL_law_1341 ?_
  refine jl_sld E dL_law_1342 h2 ?_
  obtain ⟨⟨r1, v1⟩, hc1, hF⟩ := jx_bind hF
  try dsimp only at hF
  refine jl_callX (As := [.int (xs (x3 + 1).toNatClampNeg), .int (xs (x3 + 2).toNatClampNeg)]) (st := []) E dL_law_1343 2 rfl (k_X4_hold (jl_inj E.2.2.2.2.2.2.2.2.2.1) (xs (x3 + 1).toNatClampNeg) (xs (x3 + 2).toNatClampNeg) v r1 v1 hc1) (gl_V tw_940 tw_941 tw_942 tw_190 tw_943) rfl rfl dd_X4_hold rfl ⟨by decide, by decide⟩ hf (Nat.le_of_ble_eq_true rfl) ?_
  refine jl_pop E dL_law_1346 rfl ?_
  refine jl_aload_n E dL_law_1347 2 rfl ?_
  refine jl_aload_n E dL_law_1348 0 rfl ?_
  refine jl_iload_n E dL_law_1349 3 rfl ?_
  refine jl_iconst (x := 1) E dL_law_1350 (by decide) ?_
  refine jl_iadd E dL_law_1351 ?_
  refine jl_sld E dL_law_1352 h1 ?_
  refine jl_aload_n E dL_law_1353 0 rfl ?_
  refine jl_iload_n E dL_law_1354 3 rfl ?_
  refine jl_iconst (x := 2) E dL_law_1355 (by decide) ?_
  refine jl_iadd E dL_law_1356 ?_
  refine jl_sld E dL_law_1357 h2 ?_
  obtain ⟨⟨r2, w2⟩, hc2, hF⟩ := jx_bind hF
  try dsimp only at hF
  refine jl_callM (As := [.int (xs (x3 + 1).toNatClampNeg), .int (xs (x3 + 2).toNatClampNeg)]) (st := []) E dL_law_1358 2 rfl (k_X5_hold (jl_inj E.2.2.2.2.2.2.2.2.2.2.1) (xs (x3 + 1).toNatClampNeg) (xs (x3 + 2).toNatClampNeg) w r2 w2 hc2) (gl_V tw_944 tw_945 tw_946 tw_325 tw_947) rfl rfl dd_X5_hold rfl ⟨by decide, by decide⟩ hf (Nat.le_of_ble_eq_true rfl) ?_
  refine jl_pop E dL_law_1361 rfl ?_
  refine jl_goto (tgt := 1698) E dL_law_1362 (by decide) ?_
  obtain ⟨rfl, rfl⟩ := jx_out hF
  exact kend
def g_39 (a1 a2 a3 a4 a5 : Int32) (v w : jx_V) : Option (jx_V × jx_V) := ((f_X4_as a1 a2 v).bind (fun (r1, v1) => ((f_X5_as a1 a2 w).bind (fun (r2, w2) => (some (v1, w2))))))
set_option maxHeartbeats 4000000 in
set_option maxRecDepth 100000 in
theorem lc_39 {p : Program} {l : Launch} {e : Env} {s : State} {m : MethodId} {args : Array Value} {below : List Frame} {meth : Method} {c : Code} {Q : State → Prop} {D : va_G} {cI cJ : ClassId} {adX adM adK adV : Nat → Nat} {A : Nat → Prop} {kc ks b L : Nat} {xs : Nat → Int32} (E : jl_E p s m args c D cI cJ adX adM adK adV A b L xs) (x3 : Int32) (h1 : vp_in (x3 + 1) L) (h2 : vp_in (x3 + 2) L) (h3 : vp_in (x3 + 3) L) (h4 : vp_in (x3 + 4) L) (h5 : vp_in (x3 + 5) L) (v w v' w' : jx_V) (hf : kc ≤ room_1.cells ∧ ks ≤ room_1.slots) (hF : g_39 (xs (x3 + 1).toNatClampNeg) (xs (x3 + 2).toNatClampNeg) (xs (x3 + 3).toNatClampNeg) (xs (x3 + 4).toNatClampNeg) (xs (x3 + 5).toNatClampNeg) v w = some (v', w')) (kend : jl_J p l e room_1 s m args below meth c D cI cJ adX adM A kc ks Q v' w' 1698 [(0, .ref b), (1, .ref (adX 0)), (2, .ref (adM 0)), (3, .int x3)] []) : jl_J p l e room_1 s m args below meth c D cI cJ adX adM A kc ks Q v w 1365 [(0, .ref b), (1, .ref (adX 0)), (2, .ref (adM 0)), (3, .int x3)] [] := by
  unfold g_39 at hF
  refine jl_aload_n E dL_law_1365 1 rfl ?_
  refine jl_aload_n E dL_law_1366 0 rfl ?_
  refine jl_iload_n E dL_law_1367 3 rfl ?_
  refine jl_iconst (x := 1) E dL_law_1368 (by decide) ?_
  refine jl_iadd E dL_law_1369 ?_
  refine jl_sld E dL_law_1370 h1 ?_
  refine jl_aload_n E dL_law_1371 0 rfl ?_
  refine jl_iload_n E dL_law_1372 3 rfl ?_
  refine jl_iconst (x := 2) E dL_law_1373 (by decide) ?_
  refine jl_iadd E dL_law_1374 ?_
  refine jl_sld E dL_law_1375 h2 ?_
  obtain ⟨⟨r1, v1⟩, hc1, hF⟩ := jx_bind hF
  try dsimp only at hF
  refine jl_callX (As := [.int (xs (x3 + 1).toNatClampNeg), .int (xs (x3 + 2).toNatClampNeg)]) (st := []) E dL_law_1376 2 rfl (k_X4_as (jl_inj E.2.2.2.2.2.2.2.2.2.1) (xs (x3 + 1).toNatClampNeg) (xs (x3 + 2).toNatClampNeg) v r1 v1 hc1) (gl_V tw_948 tw_949 tw_950 tw_190 tw_951) rfl rfl dd_X4_as rfl ⟨by decide, by decide⟩ hf (Nat.le_of_ble_eq_true rfl) ?_
  refine jl_pop E dL_law_1379 rfl ?_
  refine jl_aload_n E dL_law_1380 2 rfl ?_
  refine jl_aload_n E dL_law_1381 0 rfl ?_
  refine jl_iload_n E dL_law_1382 3 rfl ?_
  refine jl_iconst (x := 1) E dL_law_1383 (by decide) ?_
  refine jl_iadd E dL_law_1384 ?_
  refine jl_sld E dL_law_1385 h1 ?_
  refine jl_aload_n E dL_law_1386 0 rfl ?_
  refine jl_iload_n E dL_law_1387 3 rfl ?_
  refine jl_iconst (x := 2) E dL_law_1388 (by decide) ?_
  refine jl_iadd E dL_law_1389 ?_
  refine jl_sld E dL_law_1390 h2 ?_
  obtain ⟨⟨r2, w2⟩, hc2, hF⟩ := jx_bind hF
  try dsimp only at hF
  refine jl_callM (As := [.int (xs (x3 + 1).toNatClampNeg), .int (xs (x3 + 2).toNatClampNeg)]) (st := []) E dL_law_1391 2 rfl (k_X5_as (jl_inj E.2.2.2.2.2.2.2.2.2.2.1) (xs (x3 + 1).toNatClampNeg) (xs (x3 + 2).toNatClampNeg) w r2 w2 hc2) (gl_V tw_952 tw_953 tw_954 tw_325 tw_955) rfl rfl dd_X5_as rfl ⟨by decide, by decide⟩ hf (Nat.le_of_ble_eq_true rfl) ?_
  refine jl_pop E dL_law_1394 rfl ?_
  refine jl_goto (tgt := 1698) E dL_law_1395 (by decide) ?_
  obtain ⟨rfl, rfl⟩ := jx_out hF
  exact kend
def g_40 (a1 a2 a3 a4 a5 : Int32) (v w : jx_V) : Option (jx_V × jx_V) := ((f_X4_sheet a1 a2 a3 v).bind (fun (r1, v1) => ((f_X5_sheet a1 a2 a3 w).bind (fun (r2, w2) => (some (v1, w2))))))
set_option maxHeartbeats 4000000 in
set_option maxRecDepth 100000 in
theorem lc_40 {p : Program} {l : Launch} {e : Env} {s : State} {m : MethodId} {args : Array Value} {below : List Frame} {meth : Method} {c : Code} {Q : State → Prop} {D : va_G} {cI cJ : ClassId} {adX adM adK adV : Nat → Nat} {A : Nat → Prop} {kc ks b L : Nat} {xs : Nat → Int32} (E : jl_E p s m args c D cI cJ adX adM adK adV A b L xs) (x3 : Int32) (h1 : vp_in (x3 + 1) L) (h2 : vp_in (x3 + 2) L) (h3 : vp_in (x3 + 3) L) (h4 : vp_in (x3 + 4) L) (h5 : vp_in (x3 + 5) L) (v w v' w' : jx_V) (hf : kc ≤ room_1.cells ∧ ks ≤ room_1.slots) (hF : g_40 (xs (x3 + 1).toNatClampNeg) (xs (x3 + 2).toNatClampNeg) (xs (x3 + 3).toNatClampNeg) (xs (x3 + 4).toNatClampNeg) (xs (x3 + 5).toNatClampNeg) v w = some (v', w')) (kend : jl_J p l e room_1 s m args below meth c D cI cJ adX adM A kc ks Q v' w' 1698 [(0, .ref b), (1, .ref (adX 0)), (2, .ref (adM 0)), (3, .int x3)] []) : jl_J p l e room_1 s m args below meth c D cI cJ adX adM A kc ks Q v w 1398 [(0, .ref b), (1, .ref (adX 0)), (2, .ref (adM 0)), (3, .int x3)] [] := by
  unfold g_40 at hF
  refine jl_aload_n E dL_law_1398 1 rfl ?_
  refine jl_aload_n E dL_law_1399 0 rfl ?_
  refine jl_iload_n E dL_law_1400 3 rfl ?_
  refine jl_iconst (x := 1) E dL_law_1401 (by decide) ?_
  refine jl_iadd E dL_law_1402 ?_
  refine jl_sld E dL_law_1403 h1 ?_
  refine jl_aload_n E dL_law_1404 0 rfl ?_
  refine jl_iload_n E dL_law_1405 3 rfl ?_
  refine jl_iconst (x := 2) E dL_law_1406 (by decide) ?_
  refine jl_iadd E dL_law_1407 ?_
  refine jl_sld E dL_law_1408 h2 ?_
  refine jl_aload_n E dL_law_1409 0 rfl ?_
  refine jl_iload_n E dL_law_1410 3 rfl ?_
  refine jl_iconst (x := 3) E dL_law_1411 (by decide) ?_
  refine jl_iadd E dL_law_1412 ?_
  refine jl_sld E dL_law_1413 h3 ?_
  obtain ⟨⟨r1, v1⟩, hc1, hF⟩ := jx_bind hF
  try dsimp only at hF
  refine jl_callX (As := [.int (xs (x3 + 1).toNatClampNeg), .int (xs (x3 + 2).toNatClampNeg), .int (xs (x3 + 3).toNatClampNeg)]) (st := []) E dL_law_1414 3 rfl (k_X4_sheet (jl_inj E.2.2.2.2.2.2.2.2.2.1) (xs (x3 + 1).toNatClampNeg) (xs (x3 + 2).toNatClampNeg) (xs (x3 + 3).toNatClampNeg) v r1 v1 hc1) (gl_V tw_956 tw_957 tw_958 tw_190 tw_959) rfl rfl dd_X4_sheet rfl ⟨by decide, by decide⟩ hf (Nat.le_of_ble_eq_true rfl) ?_
  refine jl_pop E dL_law_1417 rfl ?_
  refine jl_aload_n E dL_law_1418 2 rfl ?_
  refine jl_aload_n E dL_law_1419 0 rfl ?_
  refine jl_iload_n E dL_law_1420 3 rfl ?_
  refine jl_iconst (x := 1) E dL_law_1421 (by decide) ?_
  refine jl_iadd E dL_law_1422 ?_
  refine jl_sld E dL_law_1423 h1 ?_
  refine jl_aload_n E dL_law_1424 0 rfl ?_
  refine jl_iload_n E dL_law_1425 3 rfl ?_
  refine jl_iconst (x := 2) E dL_law_1426 (by decide) ?_
  refine jl_iadd E dL_law_1427 ?_
  refine jl_sld E dL_law_1428 h2 ?_
  refine jl_aload_n E dL_law_1429 0 rfl ?_
  refine jl_iload_n E dL_law_1430 3 rfl ?_
  refine jl_iconst (x := 3) E dL_law_1431 (by decide) ?_
  refine jl_iadd E dL_law_1432 ?_
  refine jl_sld E dL_law_1433 h3 ?_
  obtain ⟨⟨r2, w2⟩, hc2, hF⟩ := jx_bind hF
  try dsimp only at hF
  refine jl_callM (As := [.int (xs (x3 + 1).toNatClampNeg), .int (xs (x3 + 2).toNatClampNeg), .int (xs (x3 + 3).toNatClampNeg)]) (st := []) E dL_law_1434 3 rfl (k_X5_sheet (jl_inj E.2.2.2.2.2.2.2.2.2.2.1) (xs (x3 + 1).toNatClampNeg) (xs (x3 + 2).toNatClampNeg) (xs (x3 + 3).toNatClampNeg) w r2 w2 hc2) (gl_V tw_960 tw_961 tw_962 tw_325 tw_963) rfl rfl dd_X5_sheet rfl ⟨by decide, by decide⟩ hf (Nat.le_of_ble_eq_true rfl) ?_
  refine jl_pop E dL_law_1437 rfl ?_
  refine jl_goto (tgt := 1698) E dL_law_1438 (by decide) ?_
  obtain ⟨rfl, rfl⟩ := jx_out hF
  exact kend
def g_41 (a1 a2 a3 a4 a5 : Int32) (v w : jx_V) : Option (jx_V × jx_V) := ((f_X4_write a1 a2 a3 v).bind (fun (r1, v1) => ((f_X5_write a1 a2 a3 w).bind (fun (r2, w2) => (some (v1, w2))))))
set_option maxHeartbeats 4000000 in
set_option maxRecDepth 100000 in
theorem lc_41 {p : Program} {l : Launch} {e : Env} {s : State} {m : MethodId} {args : Array Value} {below : List Frame} {meth : Method} {c : Code} {Q : State → Prop} {D : va_G} {cI cJ : ClassId} {adX adM adK adV : Nat → Nat} {A : Nat → Prop} {kc ks b L : Nat} {xs : Nat → Int32} (E : jl_E p s m args c D cI cJ adX adM adK adV A b L xs) (x3 : Int32) (h1 : vp_in (x3 + 1) L) (h2 : vp_in (x3 + 2) L) (h3 : vp_in (x3 + 3) L) (h4 : vp_in (x3 + 4) L) (h5 : vp_in (x3 + 5) L) (v w v' w' : jx_V) (hf : kc ≤ room_1.cells ∧ ks ≤ room_1.slots) (hF : g_41 (xs (x3 + 1).toNatClampNeg) (xs (x3 + 2).toNatClampNeg) (xs (x3 + 3).toNatClampNeg) (xs (x3 + 4).toNatClampNeg) (xs (x3 + 5).toNatClampNeg) v w = some (v', w')) (kend : jl_J p l e room_1 s m args below meth c D cI cJ adX adM A kc ks Q v' w' 1698 [(0, .ref b), (1, .ref (adX 0)), (2, .ref (adM 0)), (3, .int x3)] []) : jl_J p l e room_1 s m args below meth c D cI cJ adX adM A kc ks Q v w 1441 [(0, .ref b), (1, .ref (adX 0)), (2, .ref (adM 0)), (3, .int x3)] [] := by
  unfold g_41 at hF
  refine jl_aload_n E dL_law_1441 1 rfl ?_
  refine jl_aload_n E dL_law_1442 0 rfl ?_
  refine jl_iload_n E dL_law_1443 3 rfl ?_
  refine jl_iconst (x := 1) E dL_law_1444 (by decide) ?_
  refine jl_iadd E dL_law_1445 ?_
  refine jl_sld E dL_law_1446 h1 ?_
  refine jl_aload_n E dL_law_1447 0 rfl ?_
  refine jl_iload_n E dL_law_1448 3 rfl ?_
  refine jl_iconst (x := 2) E dL_law_1449 (by decide) ?_
  refine jl_iadd E dL_law_1450 ?_
  refine jl_sld E dL_law_1451 h2 ?_
  refine jl_aload_n E dL_law_1452 0 rfl ?_
  refine jl_iload_n E dL_law_1453 3 rfl ?_
  refine jl_iconst (x := 3) E dL_law_1454 (by decide) ?_
  refine jl_iadd E dL_law_1455 ?_
  refine jl_sld E dL_law_1456 h3 ?_
  obtain ⟨⟨r1, v1⟩, hc1, hF⟩ := jx_bind hF
  try dsimp only at hF
  refine jl_callX (As := [.int (xs (x3 + 1).toNatClampNeg), .int (xs (x3 + 2).toNatClampNeg), .int (xs (x3 + 3).toNatClampNeg)]) (st := []) E dL_law_1457 3 rfl (k_X4_write (jl_inj E.2.2.2.2.2.2.2.2.2.1) (xs (x3 + 1).toNatClampNeg) (xs (x3 + 2).toNatClampNeg) (xs (x3 + 3).toNatClampNeg) v r1 v1 hc1) (gl_V tw_964 tw_965 tw_966 tw_190 tw_967) rfl rfl dd_X4_write rfl ⟨by decide, by decide⟩ hf (Nat.le_of_ble_eq_true rfl) ?_
  refine jl_pop E dL_law_1460 rfl ?_
  refine jl_aload_n E dL_law_1461 2 rfl ?_
  refine jl_aload_n E dL_law_1462 0 rfl ?_
  refine jl_iload_n E dL_law_1463 3 rfl ?_
  refine jl_iconst (x := 1) E dL_law_1464 (by decide) ?_
  refine jl_iadd E dL_law_1465 ?_
  refine jl_sld E dL_law_1466 h1 ?_
  refine jl_aload_n E dL_law_1467 0 rfl ?_
  refine jl_iload_n E dL_law_1468 3 rfl ?_
  refine jl_iconst (x := 2) E dL_law_1469 (by decide) ?_
  refine jl_iadd E dL_law_1470 ?_
  refine jl_sld E dL_law_1471 h2 ?_
  refine jl_aload_n E dL_law_1472 0 rfl ?_
  refine jl_iload_n E dL_law_1473 3 rfl ?_
  refine jl_iconst (x := 3) E dL_law_1474 (by decide) ?_
  refine jl_iadd E dL_law_1475 ?_
  refine jl_sld E dL_law_1476 h3 ?_
  obtain ⟨⟨r2, w2⟩, hc2, hF⟩ := jx_bind hF
  try dsimp only at hF
  refine jl_callM (As := [.int (xs (x3 + 1).toNatClampNeg), .int (xs (x3 + 2).toNatClampNeg), .int (xs (x3 + 3).toNatClampNeg)]) (st := []) E dL_law_1477 3 rfl (k_X5_write (jl_inj E.2.2.2.2.2.2.2.2.2.2.1) (xs (x3 + 1).toNatClampNeg) (xs (x3 + 2).toNatClampNeg) (xs (x3 + 3).toNatClampNeg) w r2 w2 hc2) (gl_V tw_968 tw_969 tw_970 tw_325 tw_971) rfl rfl dd_X5_write rfl ⟨by decide, by decide⟩ hf (Nat.le_of_ble_eq_true rfl) ?_
  refine jl_pop E dL_law_1480 rfl ?_
  refine jl_goto (tgt := 1698) E dL_law_1481 (by decide) ?_
  obtain ⟨rfl, rfl⟩ := jx_out hF
  exact kend
def g_42 (a1 a2 a3 a4 a5 : Int32) (v w : jx_V) : Option (jx_V × jx_V) := ((f_X4_copy a1 a2 a3 a4 a5 v).bind (fun (r1, v1) => ((f_X5_copy a1 a2 a3 a4 a5 w).bind (fun (r2, w2) => (some (v1, w2))))))
set_option maxHeartbeats 4000000 in
set_option maxRecDepth 100000 in
theorem lc_42 {p : Program} {l : Launch} {e : Env} {s : State} {m : MethodId} {args : Array Value} {below : List Frame} {meth : Method} {c : Code} {Q : State → Prop} {D : va_G} {cI cJ : ClassId} {adX adM adK adV : Nat → Nat} {A : Nat → Prop} {kc ks b L : Nat} {xs : Nat → Int32} (E : jl_E p s m args c D cI cJ adX adM adK adV A b L xs) (x3 : Int32) (h1 : vp_in (x3 + 1) L) (h2 : vp_in (x3 + 2) L) (h3 : vp_in (x3 + 3) L) (h4 : vp_in (x3 + 4) L) (h5 : vp_in (x3 + 5) L) (v w v' w' : jx_V) (hf : kc ≤ room_1.cells ∧ ks ≤ room_1.slots) (hF : g_42 (xs (x3 + 1).toNatClampNeg) (xs (x3 + 2).toNatClampNeg) (xs (x3 + 3).toNatClampNeg) (xs (x3 + 4).toNatClampNeg) (xs (x3 + 5).toNatClampNeg) v w = some (v', w')) (kend : jl_J p l e room_1 s m args below meth c D cI cJ adX adM A kc ks Q v' w' 1698 [(0, .ref b), (1, .ref (adX 0)), (2, .ref (adM 0)), (3, .int x3)] []) : jl_J p l e room_1 s m args below meth c D cI cJ adX adM A kc ks Q v w 1484 [(0, .ref b), (1, .ref (adX 0)), (2, .ref (adM 0)), (3, .int x3)] [] := by
  unfold g_42 at hF
  refine jl_aload_n E dL_law_1484 1 rfl ?_
  refine jl_aload_n E dL_law_1485 0 rfl ?_
  refine jl_iload_n E dL_law_1486 3 rfl ?_
  refine jl_iconst (x := 1) E dL_law_1487 (by decide) ?_
  refine jl_iadd E dL_law_1488 ?_
  refine jl_sld E dL_law_1489 h1 ?_
  refine jl_aload_n E dL_law_1490 0 rfl ?_
  refine jl_iload_n E dL_law_1491 3 rfl ?_
  refine jl_iconst (x := 2) E dL_law_1492 (by decide) ?_
  refine jl_iadd E dL_law_1493 ?_
  refine jl_sld E dL_law_1494 h2 ?_
  refine jl_aload_n E dL_law_1495 0 rfl ?_
  refine jl_iload_n E dL_law_1496 3 rfl ?_
  refine jl_iconst (x := 3) E dL_law_1497 (by decide) ?_
  refine jl_iadd E dL_law_1498 ?_
  refine jl_sld E dL_law_1499 h3 ?_
  refine jl_aload_n E dL_law_1500 0 rfl ?_
  refine jl_iload_n E dL_law_1501 3 rfl ?_
  refine jl_iconst (x := 4) E dL_law_1502 (by decide) ?_
  refine jl_iadd E dL_law_1503 ?_
  refine jl_sld E dL_law_1504 h4 ?_
  refine jl_aload_n E dL_law_1505 0 rfl ?_
  refine jl_iload_n E dL_law_1506 3 rfl ?_
  refine jl_iconst (x := 5) E dL_law_1507 (by decide) ?_
  refine jl_iadd E dL_law_1508 ?_
  refine jl_sld E dL_law_1509 h5 ?_
  obtain ⟨⟨r1, v1⟩, hc1, hF⟩ := jx_bind hF
  try dsimp only at hF
  refine jl_callX (As := [.int (xs (x3 + 1).toNatClampNeg), .int (xs (x3 + 2).toNatClampNeg), .int (xs (x3 + 3).toNatClampNeg), .int (xs (x3 + 4).toNatClampNeg), .int (xs (x3 + 5).toNatClampNeg)]) (st := []) E dL_law_1510 5 rfl (k_X4_copy (jl_inj E.2.2.2.2.2.2.2.2.2.1) (xs (x3 + 1).toNatClampNeg) (xs (x3 + 2).toNatClampNeg) (xs (x3 + 3).toNatClampNeg) (xs (x3 + 4).toNatClampNeg) (xs (x3 + 5).toNatClampNeg) v r1 v1 hc1) (gl_V tw_972 tw_973 tw_974 tw_190 tw_975) rfl rfl dd_X4_copy rfl ⟨by decide, by decide⟩ hf (Nat.le_of_ble_eq_true rfl) ?_
  refine jl_pop E dL_law_1513 rfl ?_
  refine jl_aload_n E dL_law_1514 2 rfl ?_
  refine jl_aload_n E dL_law_1515 0 rfl ?_
  refine jl_iload_n E dL_law_1516 3 rfl ?_
  refine jl_iconst (x := 1) E dL_law_1517 (by decide) ?_
  refine jl_iadd E dL_law_1518 ?_
  refine jl_sld E dL_law_1519 h1 ?_
  refine jl_aload_n E dL_law_1520 0 rfl ?_
  refine jl_iload_n E dL_law_1521 3 rfl ?_
  refine jl_iconst (x := 2) E dL_law_1522 (by decide) ?_
  refine jl_iadd E dL_law_1523 ?_
  refine jl_sld E dL_law_1524 h2 ?_
  refine jl_aload_n E dL_law_1525 0 rfl ?_
  refine jl_iload_n E dL_law_1526 3 rfl ?_
  refine jl_iconst (x := 3) E dL_law_1527 (by decide) ?_
  refine jl_iadd E dL_law_1528 ?_
  refine jl_sld E dL_law_1529 h3 ?_
  refine jl_aload_n E dL_law_1530 0 rfl ?_
  refine jl_iload_n E dL_law_1531 3 rfl ?_
  refine jl_iconst (x := 4) E dL_law_1532 (by decide) ?_
  refine jl_iadd E dL_law_1533 ?_
  refine jl_sld E dL_law_1534 h4 ?_
  refine jl_aload_n E dL_law_1535 0 rfl ?_
  refine jl_iload_n E dL_law_1536 3 rfl ?_
  refine jl_iconst (x := 5) E dL_law_1537 (by decide) ?_
  refine jl_iadd E dL_law_1538 ?_
  refine jl_sld E dL_law_1539 h5 ?_
  obtain ⟨⟨r2, w2⟩, hc2, hF⟩ := jx_bind hF
  try dsimp only at hF
  refine jl_callM (As := [.int (xs (x3 + 1).toNatClampNeg), .int (xs (x3 + 2).toNatClampNeg), .int (xs (x3 + 3).toNatClampNeg), .int (xs (x3 + 4).toNatClampNeg), .int (xs (x3 + 5).toNatClampNeg)]) (st := []) E dL_law_1540 5 rfl (k_X5_copy (jl_inj E.2.2.2.2.2.2.2.2.2.2.1) (xs (x3 + 1).toNatClampNeg) (xs (x3 + 2).toNatClampNeg) (xs (x3 + 3).toNatClampNeg) (xs (x3 + 4).toNatClampNeg) (xs (x3 + 5).toNatClampNeg) w r2 w2 hc2) (gl_V tw_976 tw_977 tw_978 tw_325 tw_979) rfl rfl dd_X5_copy rfl ⟨by decide, by decide⟩ hf (Nat.le_of_ble_eq_true rfl) ?_
  refine jl_pop E dL_law_1543 rfl ?_
  refine jl_goto (tgt := 1698) E dL_law_1544 (by decide) ?_
  obtain ⟨rfl, rfl⟩ := jx_out hF
  exact kend
def g_43 (a1 a2 a3 a4 a5 : Int32) (v w : jx_V) : Option (jx_V × jx_V) := ((f_X4_load a1 a2 v).bind (fun (r1, v1) => ((f_X5_load a1 a2 w).bind (fun (r2, w2) => (some (v1, w2))))))
set_option maxHeartbeats 4000000 in
set_option maxRecDepth 100000 in
theorem lc_43 {p : Program} {l : Launch} {e : Env} {s : State} {m : MethodId} {args : Array Value} {below : List Frame} {meth : Method} {c : Code} {Q : State → Prop} {D : va_G} {cI cJ : ClassId} {adX adM adK adV : Nat → Nat} {A : Nat → Prop} {kc ks b L : Nat} {xs : Nat → Int32} (E : jl_E p s m args c D cI cJ adX adM adK adV A b L xs) (x3 : Int32) (h1 : vp_in (x3 + 1) L) (h2 : vp_in (x3 + 2) L) (h3 : vp_in (x3 + 3) L) (h4 : vp_in (x3 + 4) L) (h5 : vp_in (x3 + 5) L) (v w v' w' : jx_V) (hf : kc ≤ room_1.cells ∧ ks ≤ room_1.slots) (hF : g_43 (xs (x3 + 1).toNatClampNeg) (xs (x3 + 2).toNatClampNeg) (xs (x3 + 3).toNatClampNeg) (xs (x3 + 4).toNatClampNeg) (xs (x3 + 5).toNatClampNeg) v w = some (v', w')) (kend : jl_J p l e room_1 s m args below meth c D cI cJ adX adM A kc ks Q v' w' 1698 [(0, .ref b), (1, .ref (adX 0)), (2, .ref (adM 0)), (3, .int x3)] []) : jl_J p l e room_1 s m args below meth c D cI cJ adX adM A kc ks Q v w 1547 [(0, .ref b), (1, .ref (adX 0)), (2, .ref (adM 0)), (3, .int x3)] [] := by
  unfold g_43 at hF
  refine jl_aload_n E dL_law_1547 1 rfl ?_
  refine jl_aload_n E dL_law_1548 0 rfl ?_
  refine jl_iload_n E dL_law_1549 3 rfl ?_
  refine jl_iconst (x := 1) E dL_law_1550 (by decide) ?_
  refine jl_iadd E dL_law_1551 ?_
  refine jl_sld E dL_law_1552 h1 ?_
  refine jl_aload_n E dL_law_1553 0 rfl ?_
  refine jl_iload_n E dL_law_1554 3 rfl ?_
  refine jl_iconst (x := 2) E dL_law_1555 (by decide) ?_
  refine jl_iadd E dL_law_1556 ?_
  refine jl_sld E dL_law_1557 h2 ?_
  obtain ⟨⟨r1, v1⟩, hc1, hF⟩ := jx_bind hF
  try dsimp only at hF
  refine jl_callX (As := [.int (xs (x3 + 1).toNatClampNeg), .int (xs (x3 + 2).toNatClampNeg)]) (st := []) E dL_law_1558 2 rfl (k_X4_load (jl_inj E.2.2.2.2.2.2.2.2.2.1) (xs (x3 + 1).toNatClampNeg) (xs (x3 + 2).toNatClampNeg) v r1 v1 hc1) (gl_V tw_980 tw_981 tw_982 tw_190 tw_983) rfl rfl dd_X4_load rfl ⟨by decide, by decide⟩ hf (Nat.le_of_ble_eq_true rfl) ?_
  refine jl_pop E dL_law_1561 rfl ?_
  refine jl_aload_n E dL_law_1562 2 rfl ?_
  refine jl_aload_n E dL_law_1563 0 rfl ?_
  refine jl_iload_n E dL_law_1564 3 rfl ?_
  refine jl_iconst (x := 1) E dL_law_1565 (by decide) ?_
  refine jl_iadd E dL_law_1566 ?_
  refine jl_sld E dL_law_1567 h1 ?_
  refine jl_aload_n E dL_law_1568 0 rfl ?_
  refine jl_iload_n E dL_law_1569 3 rfl ?_
  refine jl_iconst (x := 2) E dL_law_1570 (by decide) ?_
  refine jl_iadd E dL_law_1571 ?_
  refine jl_sld E dL_law_1572 h2 ?_
  obtain ⟨⟨r2, w2⟩, hc2, hF⟩ := jx_bind hF
  try dsimp only at hF
  refine jl_callM (As := [.int (xs (x3 + 1).toNatClampNeg), .int (xs (x3 + 2).toNatClampNeg)]) (st := []) E dL_law_1573 2 rfl (k_X5_load (jl_inj E.2.2.2.2.2.2.2.2.2.2.1) (xs (x3 + 1).toNatClampNeg) (xs (x3 + 2).toNatClampNeg) w r2 w2 hc2) (gl_V tw_984 tw_985 tw_986 tw_325 tw_987) rfl rfl dd_X5_load rfl ⟨by decide, by decide⟩ hf (Nat.le_of_ble_eq_true rfl) ?_
  refine jl_pop E dL_law_1576 rfl ?_
  refine jl_goto (tgt := 1698) E dL_law_1577 (by decide) ?_
  obtain ⟨rfl, rfl⟩ := jx_out hF
  exact kend
def g_44 (a1 a2 a3 a4 a5 : Int32) (v w : jx_V) : Option (jx_V × jx_V) := ((f_X4_judge a1 a2 v).bind (fun (r1, v1) => ((f_X5_judge a1 a2 w).bind (fun (r2, w2) => (some (v1, w2))))))
set_option maxHeartbeats 4000000 in
set_option maxRecDepth 100000 in
theorem lc_44 {p : Program} {l : Launch} {e : Env} {s : State} {m : MethodId} {args : Array Value} {below : List Frame} {meth : Method} {c : Code} {Q : State → Prop} {D : va_G} {cI cJ : ClassId} {adX adM adK adV : Nat → Nat} {A : Nat → Prop} {kc ks b L : Nat} {xs : Nat → Int32} (E : jl_E p s m args c D cI cJ adX adM adK adV A b L xs) (x3 : Int32) (h1 : vp_in (x3 + 1) L) (h2 : vp_in (x3 + 2) L) (h3 : vp_in (x3 + 3) L) (h4 : vp_in (x3 + 4) L) (h5 : vp_in (x3 + 5) L) (v w v' w' : jx_V) (hf : kc ≤ room_1.cells ∧ ks ≤ room_1.slots) (hF : g_44 (xs (x3 + 1).toNatClampNeg) (xs (x3 + 2).toNatClampNeg) (xs (x3 + 3).toNatClampNeg) (xs (x3 + 4).toNatClampNeg) (xs (x3 + 5).toNatClampNeg) v w = some (v', w')) (kend : jl_J p l e room_1 s m args below meth c D cI cJ adX adM A kc ks Q v' w' 1698 [(0, .ref b), (1, .ref (adX 0)), (2, .ref (adM 0)), (3, .int x3)] []) : jl_J p l e room_1 s m args below meth c D cI cJ adX adM A kc ks Q v w 1580 [(0, .ref b), (1, .ref (adX 0)), (2, .ref (adM 0)), (3, .int x3)] [] := by
  unfold g_44 at hF
  refine jl_aload_n E dL_law_1580 1 rfl ?_
  refine jl_aload_n E dL_law_1581 0 rfl ?_
  refine jl_iload_n E dL_law_1582 3 rfl ?_
  refine jl_iconst (x := 1) E dL_law_1583 (by decide) ?_
  refine jl_iadd E dL_law_1584 ?_
  refine jl_sld E dL_law_1585 h1 ?_
  refine jl_aload_n E dL_law_1586 0 rfl ?_
  refine jl_iload_n E dL_law_1587 3 rfl ?_
  refine jl_iconst (x := 2) E dL_law_1588 (by decide) ?_
  refine jl_iadd E dL_law_1589 ?_
  refine jl_sld E dL_law_1590 h2 ?_
  obtain ⟨⟨r1, v1⟩, hc1, hF⟩ := jx_bind hF
  try dsimp only at hF
  refine jl_callX (As := [.int (xs (x3 + 1).toNatClampNeg), .int (xs (x3 + 2).toNatClampNeg)]) (st := []) E dL_law_1591 2 rfl (k_X4_judge (jl_inj E.2.2.2.2.2.2.2.2.2.1) (xs (x3 + 1).toNatClampNeg) (xs (x3 + 2).toNatClampNeg) v r1 v1 hc1) (gl_V tw_988 tw_989 tw_990 tw_190 tw_991) rfl rfl dd_X4_judge rfl ⟨by decide, by decide⟩ hf (Nat.le_of_ble_eq_true rfl) ?_
  refine jl_pop E dL_law_1594 rfl ?_
  refine jl_aload_n E dL_law_1595 2 rfl ?_
  refine jl_aload_n E dL_law_1596 0 rfl ?_
  refine jl_iload_n E dL_law_1597 3 rfl ?_
  refine jl_iconst (x := 1) E dL_law_1598 (by decide) ?_
  refine jl_iadd E dL_law_1599 ?_
  refine jl_sld E dL_law_1600 h1 ?_
  refine jl_aload_n E dL_law_1601 0 rfl ?_
  refine jl_iload_n E dL_law_1602 3 rfl ?_
  refine jl_iconst (x := 2) E dL_law_1603 (by decide) ?_
  refine jl_iadd E dL_law_1604 ?_
  refine jl_sld E dL_law_1605 h2 ?_
  obtain ⟨⟨r2, w2⟩, hc2, hF⟩ := jx_bind hF
  try dsimp only at hF
  refine jl_callM (As := [.int (xs (x3 + 1).toNatClampNeg), .int (xs (x3 + 2).toNatClampNeg)]) (st := []) E dL_law_1606 2 rfl (k_X5_judge (jl_inj E.2.2.2.2.2.2.2.2.2.2.1) (xs (x3 + 1).toNatClampNeg) (xs (x3 + 2).toNatClampNeg) w r2 w2 hc2) (gl_V tw_992 tw_993 tw_994 tw_325 tw_995) rfl rfl dd_X5_judge rfl ⟨by decide, by decide⟩ hf (Nat.le_of_ble_eq_true rfl) ?_
  refine jl_pop E dL_law_1609 rfl ?_
  refine jl_goto (tgt := 1698) E dL_law_1610 (by decide) ?_
  obtain ⟨rfl, rfl⟩ := jx_out hF
  exact kend
def g_45 (a1 a2 a3 a4 a5 : Int32) (v w : jx_V) : Option (jx_V × jx_V) := ((f_X4_image  v).bind (fun (r1, v1) => ((f_X5_image  w).bind (fun (r2, w2) => (some (v1, w2))))))
set_option maxHeartbeats 4000000 in
set_option maxRecDepth 100000 in
theorem lc_45 {p : Program} {l : Launch} {e : Env} {s : State} {m : MethodId} {args : Array Value} {below : List Frame} {meth : Method} {c : Code} {Q : State → Prop} {D : va_G} {cI cJ : ClassId} {adX adM adK adV : Nat → Nat} {A : Nat → Prop} {kc ks b L : Nat} {xs : Nat → Int32} (E : jl_E p s m args c D cI cJ adX adM adK adV A b L xs) (x3 : Int32) (h1 : vp_in (x3 + 1) L) (h2 : vp_in (x3 + 2) L) (h3 : vp_in (x3 + 3) L) (h4 : vp_in (x3 + 4) L) (h5 : vp_in (x3 + 5) L) (v w v' w' : jx_V) (hf : kc ≤ room_1.cells ∧ ks ≤ room_1.slots) (hF : g_45 (xs (x3 + 1).toNatClampNeg) (xs (x3 + 2).toNatClampNeg) (xs (x3 + 3).toNatClampNeg) (xs (x3 + 4).toNatClampNeg) (xs (x3 + 5).toNatClampNeg) v w = some (v', w')) (kend : jl_J p l e room_1 s m args below meth c D cI cJ adX adM A kc ks Q v' w' 1698 [(0, .ref b), (1, .ref (adX 0)), (2, .ref (adM 0)), (3, .int x3)] []) : jl_J p l e room_1 s m args below meth c D cI cJ adX adM A kc ks Q v w 1613 [(0, .ref b), (1, .ref (adX 0)), (2, .ref (adM 0)), (3, .int x3)] [] := by
  unfold g_45 at hF
  refine jl_aload_n E dL_law_1613 1 rfl ?_
  obtain ⟨⟨r1, v1⟩, hc1, hF⟩ := jx_bind hF
  try dsimp only at hF
  refine jl_callX (As := []) (st := []) E dL_law_1614 0 rfl (k_X4_image (jl_inj E.2.2.2.2.2.2.2.2.2.1)  v r1 v1 hc1) (gl_V tw_996 tw_997 tw_998 tw_190 tw_999) rfl rfl dd_X4_image rfl ⟨by decide, by decide⟩ hf (Nat.le_of_ble_eq_true rfl) ?_
  refine jl_pop E dL_law_1617 rfl ?_
  refine jl_aload_n E dL_law_1618 2 rfl ?_
  obtain ⟨⟨r2, w2⟩, hc2, hF⟩ := jx_bind hF
  try dsimp only at hF
  refine jl_callM (As := []) (st := []) E dL_law_1619 0 rfl (k_X5_image (jl_inj E.2.2.2.2.2.2.2.2.2.2.1)  w r2 w2 hc2) (gl_V tw_1000 tw_1001 tw_1002 tw_325 tw_1003) rfl rfl dd_X5_image rfl ⟨by decide, by decide⟩ hf (Nat.le_of_ble_eq_true rfl) ?_
  refine jl_pop E dL_law_1622 rfl ?_
  refine jl_goto (tgt := 1698) E dL_law_1623 (by decide) ?_
  obtain ⟨rfl, rfl⟩ := jx_out hF
  exact kend
def g_46 (a1 a2 a3 a4 a5 : Int32) (v w : jx_V) : Option (jx_V × jx_V) := ((f_X4_undo  v).bind (fun (r1, v1) => ((f_X5_undo  w).bind (fun (r2, w2) => (some (v1, w2))))))
set_option maxHeartbeats 4000000 in
set_option maxRecDepth 100000 in
theorem lc_46 {p : Program} {l : Launch} {e : Env} {s : State} {m : MethodId} {args : Array Value} {below : List Frame} {meth : Method} {c : Code} {Q : State → Prop} {D : va_G} {cI cJ : ClassId} {adX adM adK adV : Nat → Nat} {A : Nat → Prop} {kc ks b L : Nat} {xs : Nat → Int32} (E : jl_E p s m args c D cI cJ adX adM adK adV A b L xs) (x3 : Int32) (h1 : vp_in (x3 + 1) L) (h2 : vp_in (x3 + 2) L) (h3 : vp_in (x3 + 3) L) (h4 : vp_in (x3 + 4) L) (h5 : vp_in (x3 + 5) L) (v w v' w' : jx_V) (hf : kc ≤ room_1.cells ∧ ks ≤ room_1.slots) (hF : g_46 (xs (x3 + 1).toNatClampNeg) (xs (x3 + 2).toNatClampNeg) (xs (x3 + 3).toNatClampNeg) (xs (x3 + 4).toNatClampNeg) (xs (x3 + 5).toNatClampNeg) v w = some (v', w')) (kend : jl_J p l e room_1 s m args below meth c D cI cJ adX adM A kc ks Q v' w' 1698 [(0, .ref b), (1, .ref (adX 0)), (2, .ref (adM 0)), (3, .int x3)] []) : jl_J p l e room_1 s m args below meth c D cI cJ adX adM A kc ks Q v w 1626 [(0, .ref b), (1, .ref (adX 0)), (2, .ref (adM 0)), (3, .int x3)] [] := by
  unfold g_46 at hF
  refine jl_aload_n E dL_law_1626 1 rfl ?_
  obtain ⟨⟨r1, v1⟩, hc1, hF⟩ := jx_bind hF
  try dsimp only at hF
  refine jl_callX (As := []) (st := []) E dL_law_1627 0 rfl (k_X4_undo (jl_inj E.2.2.2.2.2.2.2.2.2.1)  v r1 v1 hc1) (gl_V tw_1004 tw_1005 tw_1006 tw_190 tw_1007) rfl rfl dd_X4_undo rfl ⟨by decide, by decide⟩ hf (Nat.le_of_ble_eq_true rfl) ?_
  refine jl_pop E dL_law_1630 rfl ?_
  refine jl_aload_n E dL_law_1631 2 rfl ?_
  obtain ⟨⟨r2, w2⟩, hc2, hF⟩ := jx_bind hF
  try dsimp only at hF
  refine jl_callM (As := []) (st := []) E dL_law_1632 0 rfl (k_X5_undo (jl_inj E.2.2.2.2.2.2.2.2.2.2.1)  w r2 w2 hc2) (gl_V tw_1008 tw_1009 tw_1010 tw_325 tw_1011) rfl rfl dd_X5_undo rfl ⟨by decide, by decide⟩ hf (Nat.le_of_ble_eq_true rfl) ?_
  refine jl_pop E dL_law_1635 rfl ?_
  refine jl_goto (tgt := 1698) E dL_law_1636 (by decide) ?_
  obtain ⟨rfl, rfl⟩ := jx_out hF
  exact kend
def g_47 (a1 a2 a3 a4 a5 : Int32) (v w : jx_V) : Option (jx_V × jx_V) := ((f_X4_tear  v).bind (fun (r1, v1) => ((f_X5_tear  w).bind (fun (r2, w2) => (some (v1, w2))))))
set_option maxHeartbeats 4000000 in
set_option maxRecDepth 100000 in
theorem lc_47 {p : Program} {l : Launch} {e : Env} {s : State} {m : MethodId} {args : Array Value} {below : List Frame} {meth : Method} {c : Code} {Q : State → Prop} {D : va_G} {cI cJ : ClassId} {adX adM adK adV : Nat → Nat} {A : Nat → Prop} {kc ks b L : Nat} {xs : Nat → Int32} (E : jl_E p s m args c D cI cJ adX adM adK adV A b L xs) (x3 : Int32) (h1 : vp_in (x3 + 1) L) (h2 : vp_in (x3 + 2) L) (h3 : vp_in (x3 + 3) L) (h4 : vp_in (x3 + 4) L) (h5 : vp_in (x3 + 5) L) (v w v' w' : jx_V) (hf : kc ≤ room_1.cells ∧ ks ≤ room_1.slots) (hF : g_47 (xs (x3 + 1).toNatClampNeg) (xs (x3 + 2).toNatClampNeg) (xs (x3 + 3).toNatClampNeg) (xs (x3 + 4).toNatClampNeg) (xs (x3 + 5).toNatClampNeg) v w = some (v', w')) (kend : jl_J p l e room_1 s m args below meth c D cI cJ adX adM A kc ks Q v' w' 1698 [(0, .ref b), (1, .ref (adX 0)), (2, .ref (adM 0)), (3, .int x3)] []) : jl_J p l e room_1 s m args below meth c D cI cJ adX adM A kc ks Q v w 1639 [(0, .ref b), (1, .ref (adX 0)), (2, .ref (adM 0)), (3, .int x3)] [] := by
  unfold g_47 at hF
  refine jl_aload_n E dL_law_1639 1 rfl ?_
  obtain ⟨⟨r1, v1⟩, hc1, hF⟩ := jx_bind hF
  try dsimp only at hF
  refine jl_callX (As := []) (st := []) E dL_law_1640 0 rfl (k_X4_tear (jl_inj E.2.2.2.2.2.2.2.2.2.1)  v r1 v1 hc1) (gl_V tw_1012 tw_1013 tw_1014 tw_190 tw_1015) rfl rfl dd_X4_tear rfl ⟨by decide, by decide⟩ hf (Nat.le_of_ble_eq_true rfl) ?_
  refine jl_pop E dL_law_1643 rfl ?_
  refine jl_aload_n E dL_law_1644 2 rfl ?_
  obtain ⟨⟨r2, w2⟩, hc2, hF⟩ := jx_bind hF
  try dsimp only at hF
  refine jl_callM (As := []) (st := []) E dL_law_1645 0 rfl (k_X5_tear (jl_inj E.2.2.2.2.2.2.2.2.2.2.1)  w r2 w2 hc2) (gl_V tw_1016 tw_1017 tw_1018 tw_325 tw_1019) rfl rfl dd_X5_tear rfl ⟨by decide, by decide⟩ hf (Nat.le_of_ble_eq_true rfl) ?_
  refine jl_pop E dL_law_1648 rfl ?_
  refine jl_goto (tgt := 1698) E dL_law_1649 (by decide) ?_
  obtain ⟨rfl, rfl⟩ := jx_out hF
  exact kend
def g_48 (a1 a2 a3 a4 a5 : Int32) (v w : jx_V) : Option (jx_V × jx_V) := ((f_X4_count a1 v).bind (fun (r1, v1) => ((f_X5_count a1 w).bind (fun (r2, w2) => (if r1 = r2 then some (v1, w2) else none)))))
set_option maxHeartbeats 4000000 in
set_option maxRecDepth 100000 in
theorem lc_48 {p : Program} {l : Launch} {e : Env} {s : State} {m : MethodId} {args : Array Value} {below : List Frame} {meth : Method} {c : Code} {Q : State → Prop} {D : va_G} {cI cJ : ClassId} {adX adM adK adV : Nat → Nat} {A : Nat → Prop} {kc ks b L : Nat} {xs : Nat → Int32} (E : jl_E p s m args c D cI cJ adX adM adK adV A b L xs) (x3 : Int32) (h1 : vp_in (x3 + 1) L) (h2 : vp_in (x3 + 2) L) (h3 : vp_in (x3 + 3) L) (h4 : vp_in (x3 + 4) L) (h5 : vp_in (x3 + 5) L) (v w v' w' : jx_V) (hf : kc ≤ room_1.cells ∧ ks ≤ room_1.slots) (hF : g_48 (xs (x3 + 1).toNatClampNeg) (xs (x3 + 2).toNatClampNeg) (xs (x3 + 3).toNatClampNeg) (xs (x3 + 4).toNatClampNeg) (xs (x3 + 5).toNatClampNeg) v w = some (v', w')) (kend : jl_J p l e room_1 s m args below meth c D cI cJ adX adM A kc ks Q v' w' 1698 [(0, .ref b), (1, .ref (adX 0)), (2, .ref (adM 0)), (3, .int x3)] []) : jl_J p l e room_1 s m args below meth c D cI cJ adX adM A kc ks Q v w 1652 [(0, .ref b), (1, .ref (adX 0)), (2, .ref (adM 0)), (3, .int x3)] [] := by
  unfold g_48 at hF
  refine jl_aload_n E dL_law_1652 1 rfl ?_
  refine jl_aload_n E dL_law_1653 0 rfl ?_
  refine jl_iload_n E dL_law_1654 3 rfl ?_
  refine jl_iconst (x := 1) E dL_law_1655 (by decide) ?_
  refine jl_iadd E dL_law_1656 ?_
  refine jl_sld E dL_law_1657 h1 ?_
  obtain ⟨⟨r1, v1⟩, hc1, hF⟩ := jx_bind hF
  try dsimp only at hF
  refine jl_callX (As := [.int (xs (x3 + 1).toNatClampNeg)]) (st := []) E dL_law_1658 1 rfl (k_X4_count (jl_inj E.2.2.2.2.2.2.2.2.2.1) (xs (x3 + 1).toNatClampNeg) v r1 v1 hc1) (gl_V tw_1020 tw_1021 tw_1022 tw_190 tw_1023) rfl rfl dd_X4_count rfl ⟨by decide, by decide⟩ hf (Nat.le_of_ble_eq_true rfl) ?_
  refine jl_aload_n E dL_law_1661 2 rfl ?_
  refine jl_aload_n E dL_law_1662 0 rfl ?_
  refine jl_iload_n E dL_law_1663 3 rfl ?_
  refine jl_iconst (x := 1) E dL_law_1664 (by decide) ?_
  refine jl_iadd E dL_law_1665 ?_
  refine jl_sld E dL_law_1666 h1 ?_
  obtain ⟨⟨r2, w2⟩, hc2, hF⟩ := jx_bind hF
  try dsimp only at hF
  refine jl_callM (As := [.int (xs (x3 + 1).toNatClampNeg)]) (st := [.int r1]) E dL_law_1667 1 rfl (k_X5_count (jl_inj E.2.2.2.2.2.2.2.2.2.2.1) (xs (x3 + 1).toNatClampNeg) w r2 w2 hc2) (gl_V tw_1024 tw_1025 tw_1026 tw_325 tw_1027) rfl rfl dd_X5_count rfl ⟨by decide, by decide⟩ hf (Nat.le_of_ble_eq_true rfl) ?_
  refine jl_icmp_eq (tgt := 1698) E dL_law_1670 (by decide) (fun hq => ?_) (fun hq => ?_)
  · rw [if_pos hq] at hF
    obtain ⟨rfl, rfl⟩ := jx_out hF
    exact kend
  · rw [if_neg hq] at hF
    cases hF
def g_49 (a1 a2 a3 a4 a5 : Int32) (v w : jx_V) : Option (jx_V × jx_V) := ((f_X4_status a1 v).bind (fun (r1, v1) => ((f_X5_status a1 w).bind (fun (r2, w2) => (some (v1, w2))))))
set_option maxHeartbeats 4000000 in
set_option maxRecDepth 100000 in
theorem lc_49 {p : Program} {l : Launch} {e : Env} {s : State} {m : MethodId} {args : Array Value} {below : List Frame} {meth : Method} {c : Code} {Q : State → Prop} {D : va_G} {cI cJ : ClassId} {adX adM adK adV : Nat → Nat} {A : Nat → Prop} {kc ks b L : Nat} {xs : Nat → Int32} (E : jl_E p s m args c D cI cJ adX adM adK adV A b L xs) (x3 : Int32) (h1 : vp_in (x3 + 1) L) (h2 : vp_in (x3 + 2) L) (h3 : vp_in (x3 + 3) L) (h4 : vp_in (x3 + 4) L) (h5 : vp_in (x3 + 5) L) (v w v' w' : jx_V) (hf : kc ≤ room_1.cells ∧ ks ≤ room_1.slots) (hF : g_49 (xs (x3 + 1).toNatClampNeg) (xs (x3 + 2).toNatClampNeg) (xs (x3 + 3).toNatClampNeg) (xs (x3 + 4).toNatClampNeg) (xs (x3 + 5).toNatClampNeg) v w = some (v', w')) (kend : jl_J p l e room_1 s m args below meth c D cI cJ adX adM A kc ks Q v' w' 1698 [(0, .ref b), (1, .ref (adX 0)), (2, .ref (adM 0)), (3, .int x3)] []) : jl_J p l e room_1 s m args below meth c D cI cJ adX adM A kc ks Q v w 1675 [(0, .ref b), (1, .ref (adX 0)), (2, .ref (adM 0)), (3, .int x3)] [] := by
  unfold g_49 at hF
  refine jl_aload_n E dL_law_1675 1 rfl ?_
  refine jl_aload_n E dL_law_1676 0 rfl ?_
  refine jl_iload_n E dL_law_1677 3 rfl ?_
  refine jl_iconst (x := 1) E dL_law_1678 (by decide) ?_
  refine jl_iadd E dL_law_1679 ?_
  refine jl_sld E dL_law_1680 h1 ?_
  obtain ⟨⟨r1, v1⟩, hc1, hF⟩ := jx_bind hF
  try dsimp only at hF
  refine jl_callX (As := [.int (xs (x3 + 1).toNatClampNeg)]) (st := []) E dL_law_1681 1 rfl (k_X4_status (jl_inj E.2.2.2.2.2.2.2.2.2.1) (xs (x3 + 1).toNatClampNeg) v r1 v1 hc1) (gl_V tw_1028 tw_1029 tw_1030 tw_190 tw_1031) rfl rfl dd_X4_status rfl ⟨by decide, by decide⟩ hf (Nat.le_of_ble_eq_true rfl) ?_
  refine jl_pop E dL_law_1684 rfl ?_
  refine jl_aload_n E dL_law_1685 2 rfl ?_
  refine jl_aload_n E dL_law_1686 0 rfl ?_
  refine jl_iload_n E dL_law_1687 3 rfl ?_
  refine jl_iconst (x := 1) E dL_law_1688 (by decide) ?_
  refine jl_iadd E dL_law_1689 ?_
  refine jl_sld E dL_law_1690 h1 ?_
  obtain ⟨⟨r2, w2⟩, hc2, hF⟩ := jx_bind hF
  try dsimp only at hF
  refine jl_callM (As := [.int (xs (x3 + 1).toNatClampNeg)]) (st := []) E dL_law_1691 1 rfl (k_X5_status (jl_inj E.2.2.2.2.2.2.2.2.2.2.1) (xs (x3 + 1).toNatClampNeg) w r2 w2 hc2) (gl_V tw_1032 tw_1033 tw_1034 tw_325 tw_1035) rfl rfl dd_X5_status rfl ⟨by decide, by decide⟩ hf (Nat.le_of_ble_eq_true rfl) ?_
  refine jl_pop E dL_law_1694 rfl ?_
  refine jl_goto (tgt := 1698) E dL_law_1695 (by decide) ?_
  obtain ⟨rfl, rfl⟩ := jx_out hF
  exact kend
def st_law (op a1 a2 a3 a4 a5 : Int32) (v w : jx_V) : Option (jx_V × jx_V) := (if op = 0 then g_0 a1 a2 a3 a4 a5 v w else (if op = 1 then g_1 a1 a2 a3 a4 a5 v w else (if op = 2 then g_2 a1 a2 a3 a4 a5 v w else (if op = 3 then g_3 a1 a2 a3 a4 a5 v w else (if op = 4 then g_4 a1 a2 a3 a4 a5 v w else (if op = 5 then g_5 a1 a2 a3 a4 a5 v w else (if op = 6 then g_6 a1 a2 a3 a4 a5 v w else (if op = 7 then g_7 a1 a2 a3 a4 a5 v w else (if op = 8 then g_8 a1 a2 a3 a4 a5 v w else (if op = 9 then g_9 a1 a2 a3 a4 a5 v w else (if op = 10 then g_10 a1 a2 a3 a4 a5 v w else (if op = 11 then g_11 a1 a2 a3 a4 a5 v w else (if op = 12 then g_12 a1 a2 a3 a4 a5 v w else (if op = 13 then g_13 a1 a2 a3 a4 a5 v w else (if op = 14 then g_14 a1 a2 a3 a4 a5 v w else (if op = 15 then g_15 a1 a2 a3 a4 a5 v w else (if op = 16 then g_16 a1 a2 a3 a4 a5 v w else (if op = 17 then g_17 a1 a2 a3 a4 a5 v w else (if op = 18 then g_18 a1 a2 a3 a4 a5 v w else (if op = 19 then g_19 a1 a2 a3 a4 a5 v w else (if op = 20 then g_20 a1 a2 a3 a4 a5 v w else (if op = 21 then g_21 a1 a2 a3 a4 a5 v w else (if op = 22 then g_22 a1 a2 a3 a4 a5 v w else (if op = 23 then g_23 a1 a2 a3 a4 a5 v w else (if op = 24 then g_24 a1 a2 a3 a4 a5 v w else (if op = 25 then g_25 a1 a2 a3 a4 a5 v w else (if op = 26 then g_26 a1 a2 a3 a4 a5 v w else (if op = 27 then g_27 a1 a2 a3 a4 a5 v w else (if op = 28 then g_28 a1 a2 a3 a4 a5 v w else (if op = 29 then g_29 a1 a2 a3 a4 a5 v w else (if op = 30 then g_30 a1 a2 a3 a4 a5 v w else (if op = 31 then g_31 a1 a2 a3 a4 a5 v w else (if op = 32 then g_32 a1 a2 a3 a4 a5 v w else (if op = 33 then g_33 a1 a2 a3 a4 a5 v w else (if op = 34 then g_34 a1 a2 a3 a4 a5 v w else (if op = 35 then g_35 a1 a2 a3 a4 a5 v w else (if op = 36 then g_36 a1 a2 a3 a4 a5 v w else (if op = 37 then g_37 a1 a2 a3 a4 a5 v w else (if op = 38 then g_38 a1 a2 a3 a4 a5 v w else (if op = 39 then g_39 a1 a2 a3 a4 a5 v w else (if op = 40 then g_40 a1 a2 a3 a4 a5 v w else (if op = 41 then g_41 a1 a2 a3 a4 a5 v w else (if op = 42 then g_42 a1 a2 a3 a4 a5 v w else (if op = 43 then g_43 a1 a2 a3 a4 a5 v w else (if op = 44 then g_44 a1 a2 a3 a4 a5 v w else (if op = 45 then g_45 a1 a2 a3 a4 a5 v w else (if op = 46 then g_46 a1 a2 a3 a4 a5 v w else (if op = 47 then g_47 a1 a2 a3 a4 a5 v w else (if op = 48 then g_48 a1 a2 a3 a4 a5 v w else (if op = 49 then g_49 a1 a2 a3 a4 a5 v w else some (v, w)))))))))))))))))))))))))))))))))))))))))))))))))))
set_option maxHeartbeats 8000000 in
set_option maxRecDepth 100000 in
theorem ls_law {p : Program} {l : Launch} {e : Env} {s : State} {m : MethodId} {args : Array Value} {below : List Frame} {meth : Method} {c : Code} {Q : State → Prop} {D : va_G} {cI cJ : ClassId} {adX adM adK adV : Nat → Nat} {A : Nat → Prop} {kc ks b L : Nat} {xs : Nat → Int32} (E : jl_E p s m args c D cI cJ adX adM adK adV A b L xs) (x3 : Int32) (h0 : vp_in x3 L) (h1 : vp_in (x3 + 1) L) (h2 : vp_in (x3 + 2) L) (h3 : vp_in (x3 + 3) L) (h4 : vp_in (x3 + 4) L) (h5 : vp_in (x3 + 5) L) (v w v' w' : jx_V) (hf : kc ≤ room_1.cells ∧ ks ≤ room_1.slots) (hF : st_law (xs x3.toNatClampNeg &&& 63) (xs (x3 + 1).toNatClampNeg) (xs (x3 + 2).toNatClampNeg) (xs (x3 + 3).toNatClampNeg) (xs (x3 + 4).toNatClampNeg) (xs (x3 + 5).toNatClampNeg) v w = some (v', w')) (kend : jl_J p l e room_1 s m args below meth c D cI cJ adX adM A kc ks Q v' w' 1698 [(0, .ref b), (1, .ref (adX 0)), (2, .ref (adM 0)), (3, .int x3)] []) : jl_J p l e room_1 s m args below meth c D cI cJ adX adM A kc ks Q v w 27 [(0, .ref b), (1, .ref (adX 0)), (2, .ref (adM 0)), (3, .int x3)] [] := by
  unfold st_law at hF
  refine jl_aload_n E dL_law_27 0 rfl ?_
  refine jl_iload_n E dL_law_28 3 rfl ?_
  refine jl_sld E dL_law_29 h0 ?_
  refine jl_bipush (x := 63) E dL_law_30 (by decide) ?_
  refine jl_iand E dL_law_32 ?_
  generalize (xs x3.toNatClampNeg &&& 63) = op at hF ⊢
  by_cases hc0 : op = 0
  · rw [if_pos hc0] at hF
    exact jl_tableIn (tgt := 248) (z := 0) E dL_law_33 hc0 (by decide) (by decide) rfl (by decide) (lc_0 E x3 h1 h2 h3 h4 h5 v w v' w' hf hF kend)
  rw [if_neg hc0] at hF
  by_cases hc1 : op = 1
  · rw [if_pos hc1] at hF
    exact jl_tableIn (tgt := 301) (z := 1) E dL_law_33 hc1 (by decide) (by decide) rfl (by decide) (lc_1 E x3 h1 h2 h3 h4 h5 v w v' w' hf hF kend)
  rw [if_neg hc1] at hF
  by_cases hc2 : op = 2
  · rw [if_pos hc2] at hF
    exact jl_tableIn (tgt := 324) (z := 2) E dL_law_33 hc2 (by decide) (by decide) rfl (by decide) (lc_2 E x3 h1 h2 h3 h4 h5 v w v' w' hf hF kend)
  rw [if_neg hc2] at hF
  by_cases hc3 : op = 3
  · rw [if_pos hc3] at hF
    exact jl_tableIn (tgt := 357) (z := 3) E dL_law_33 hc3 (by decide) (by decide) rfl (by decide) (lc_3 E x3 h1 h2 h3 h4 h5 v w v' w' hf hF kend)
  rw [if_neg hc3] at hF
  by_cases hc4 : op = 4
  · rw [if_pos hc4] at hF
    exact jl_tableIn (tgt := 400) (z := 4) E dL_law_33 hc4 (by decide) (by decide) rfl (by decide) (lc_4 E x3 h1 h2 h3 h4 h5 v w v' w' hf hF kend)
  rw [if_neg hc4] at hF
  by_cases hc5 : op = 5
  · rw [if_pos hc5] at hF
    exact jl_tableIn (tgt := 433) (z := 5) E dL_law_33 hc5 (by decide) (by decide) rfl (by decide) (lc_5 E x3 h1 h2 h3 h4 h5 v w v' w' hf hF kend)
  rw [if_neg hc5] at hF
  by_cases hc6 : op = 6
  · rw [if_pos hc6] at hF
    exact jl_tableIn (tgt := 486) (z := 6) E dL_law_33 hc6 (by decide) (by decide) rfl (by decide) (lc_6 E x3 h1 h2 h3 h4 h5 v w v' w' hf hF kend)
  rw [if_neg hc6] at hF
  by_cases hc7 : op = 7
  · rw [if_pos hc7] at hF
    exact jl_tableIn (tgt := 519) (z := 7) E dL_law_33 hc7 (by decide) (by decide) rfl (by decide) (lc_7 E x3 h1 h2 h3 h4 h5 v w v' w' hf hF kend)
  rw [if_neg hc7] at hF
  by_cases hc8 : op = 8
  · rw [if_pos hc8] at hF
    exact jl_tableIn (tgt := 562) (z := 8) E dL_law_33 hc8 (by decide) (by decide) rfl (by decide) (lc_8 E x3 h1 h2 h3 h4 h5 v w v' w' hf hF kend)
  rw [if_neg hc8] at hF
  by_cases hc9 : op = 9
  · rw [if_pos hc9] at hF
    exact jl_tableIn (tgt := 605) (z := 9) E dL_law_33 hc9 (by decide) (by decide) rfl (by decide) (lc_9 E x3 h1 h2 h3 h4 h5 v w v' w' hf hF kend)
  rw [if_neg hc9] at hF
  by_cases hc10 : op = 10
  · rw [if_pos hc10] at hF
    exact jl_tableIn (tgt := 628) (z := 10) E dL_law_33 hc10 (by decide) (by decide) rfl (by decide) (lc_10 E x3 h1 h2 h3 h4 h5 v w v' w' hf hF kend)
  rw [if_neg hc10] at hF
  by_cases hc11 : op = 11
  · rw [if_pos hc11] at hF
    exact jl_tableIn (tgt := 661) (z := 11) E dL_law_33 hc11 (by decide) (by decide) rfl (by decide) (lc_11 E x3 h1 h2 h3 h4 h5 v w v' w' hf hF kend)
  rw [if_neg hc11] at hF
  by_cases hc12 : op = 12
  · rw [if_pos hc12] at hF
    exact jl_tableIn (tgt := 684) (z := 12) E dL_law_33 hc12 (by decide) (by decide) rfl (by decide) (lc_12 E x3 h1 h2 h3 h4 h5 v w v' w' hf hF kend)
  rw [if_neg hc12] at hF
  by_cases hc13 : op = 13
  · rw [if_pos hc13] at hF
    exact jl_tableIn (tgt := 717) (z := 13) E dL_law_33 hc13 (by decide) (by decide) rfl (by decide) (lc_13 E x3 h1 h2 h3 h4 h5 v w v' w' hf hF kend)
  rw [if_neg hc13] at hF
  by_cases hc14 : op = 14
  · rw [if_pos hc14] at hF
    exact jl_tableIn (tgt := 740) (z := 14) E dL_law_33 hc14 (by decide) (by decide) rfl (by decide) (lc_14 E x3 h1 h2 h3 h4 h5 v w v' w' hf hF kend)
  rw [if_neg hc14] at hF
  by_cases hc15 : op = 15
  · rw [if_pos hc15] at hF
    exact jl_tableIn (tgt := 763) (z := 15) E dL_law_33 hc15 (by decide) (by decide) rfl (by decide) (lc_15 E x3 h1 h2 h3 h4 h5 v w v' w' hf hF kend)
  rw [if_neg hc15] at hF
  by_cases hc16 : op = 16
  · rw [if_pos hc16] at hF
    exact jl_tableIn (tgt := 786) (z := 16) E dL_law_33 hc16 (by decide) (by decide) rfl (by decide) (lc_16 E x3 h1 h2 h3 h4 h5 v w v' w' hf hF kend)
  rw [if_neg hc16] at hF
  by_cases hc17 : op = 17
  · rw [if_pos hc17] at hF
    exact jl_tableIn (tgt := 809) (z := 17) E dL_law_33 hc17 (by decide) (by decide) rfl (by decide) (lc_17 E x3 h1 h2 h3 h4 h5 v w v' w' hf hF kend)
  rw [if_neg hc17] at hF
  by_cases hc18 : op = 18
  · rw [if_pos hc18] at hF
    exact jl_tableIn (tgt := 822) (z := 18) E dL_law_33 hc18 (by decide) (by decide) rfl (by decide) (lc_18 E x3 h1 h2 h3 h4 h5 v w v' w' hf hF kend)
  rw [if_neg hc18] at hF
  by_cases hc19 : op = 19
  · rw [if_pos hc19] at hF
    exact jl_tableIn (tgt := 845) (z := 19) E dL_law_33 hc19 (by decide) (by decide) rfl (by decide) (lc_19 E x3 h1 h2 h3 h4 h5 v w v' w' hf hF kend)
  rw [if_neg hc19] at hF
  by_cases hc20 : op = 20
  · rw [if_pos hc20] at hF
    exact jl_tableIn (tgt := 878) (z := 20) E dL_law_33 hc20 (by decide) (by decide) rfl (by decide) (lc_20 E x3 h1 h2 h3 h4 h5 v w v' w' hf hF kend)
  rw [if_neg hc20] at hF
  by_cases hc21 : op = 21
  · rw [if_pos hc21] at hF
    exact jl_tableIn (tgt := 901) (z := 21) E dL_law_33 hc21 (by decide) (by decide) rfl (by decide) (lc_21 E x3 h1 h2 h3 h4 h5 v w v' w' hf hF kend)
  rw [if_neg hc21] at hF
  by_cases hc22 : op = 22
  · rw [if_pos hc22] at hF
    exact jl_tableIn (tgt := 924) (z := 22) E dL_law_33 hc22 (by decide) (by decide) rfl (by decide) (lc_22 E x3 h1 h2 h3 h4 h5 v w v' w' hf hF kend)
  rw [if_neg hc22] at hF
  by_cases hc23 : op = 23
  · rw [if_pos hc23] at hF
    exact jl_tableIn (tgt := 947) (z := 23) E dL_law_33 hc23 (by decide) (by decide) rfl (by decide) (lc_23 E x3 h1 h2 h3 h4 h5 v w v' w' hf hF kend)
  rw [if_neg hc23] at hF
  by_cases hc24 : op = 24
  · rw [if_pos hc24] at hF
    exact jl_tableIn (tgt := 970) (z := 24) E dL_law_33 hc24 (by decide) (by decide) rfl (by decide) (lc_24 E x3 h1 h2 h3 h4 h5 v w v' w' hf hF kend)
  rw [if_neg hc24] at hF
  by_cases hc25 : op = 25
  · rw [if_pos hc25] at hF
    exact jl_tableIn (tgt := 1003) (z := 25) E dL_law_33 hc25 (by decide) (by decide) rfl (by decide) (lc_25 E x3 h1 h2 h3 h4 h5 v w v' w' hf hF kend)
  rw [if_neg hc25] at hF
  by_cases hc26 : op = 26
  · rw [if_pos hc26] at hF
    exact jl_tableIn (tgt := 1026) (z := 26) E dL_law_33 hc26 (by decide) (by decide) rfl (by decide) (lc_26 E x3 h1 h2 h3 h4 h5 v w v' w' hf hF kend)
  rw [if_neg hc26] at hF
  by_cases hc27 : op = 27
  · rw [if_pos hc27] at hF
    exact jl_tableIn (tgt := 1049) (z := 27) E dL_law_33 hc27 (by decide) (by decide) rfl (by decide) (lc_27 E x3 h1 h2 h3 h4 h5 v w v' w' hf hF kend)
  rw [if_neg hc27] at hF
  by_cases hc28 : op = 28
  · rw [if_pos hc28] at hF
    exact jl_tableIn (tgt := 1072) (z := 28) E dL_law_33 hc28 (by decide) (by decide) rfl (by decide) (lc_28 E x3 h1 h2 h3 h4 h5 v w v' w' hf hF kend)
  rw [if_neg hc28] at hF
  by_cases hc29 : op = 29
  · rw [if_pos hc29] at hF
    exact jl_tableIn (tgt := 1095) (z := 29) E dL_law_33 hc29 (by decide) (by decide) rfl (by decide) (lc_29 E x3 h1 h2 h3 h4 h5 v w v' w' hf hF kend)
  rw [if_neg hc29] at hF
  by_cases hc30 : op = 30
  · rw [if_pos hc30] at hF
    exact jl_tableIn (tgt := 1138) (z := 30) E dL_law_33 hc30 (by decide) (by decide) rfl (by decide) (lc_30 E x3 h1 h2 h3 h4 h5 v w v' w' hf hF kend)
  rw [if_neg hc30] at hF
  by_cases hc31 : op = 31
  · rw [if_pos hc31] at hF
    exact jl_tableIn (tgt := 1161) (z := 31) E dL_law_33 hc31 (by decide) (by decide) rfl (by decide) (lc_31 E x3 h1 h2 h3 h4 h5 v w v' w' hf hF kend)
  rw [if_neg hc31] at hF
  by_cases hc32 : op = 32
  · rw [if_pos hc32] at hF
    exact jl_tableIn (tgt := 1194) (z := 32) E dL_law_33 hc32 (by decide) (by decide) rfl (by decide) (lc_32 E x3 h1 h2 h3 h4 h5 v w v' w' hf hF kend)
  rw [if_neg hc32] at hF
  by_cases hc33 : op = 33
  · rw [if_pos hc33] at hF
    exact jl_tableIn (tgt := 1227) (z := 33) E dL_law_33 hc33 (by decide) (by decide) rfl (by decide) (lc_33 E x3 h1 h2 h3 h4 h5 v w v' w' hf hF kend)
  rw [if_neg hc33] at hF
  by_cases hc34 : op = 34
  · rw [if_pos hc34] at hF
    exact jl_tableIn (tgt := 1250) (z := 34) E dL_law_33 hc34 (by decide) (by decide) rfl (by decide) (lc_34 E x3 h1 h2 h3 h4 h5 v w v' w' hf hF kend)
  rw [if_neg hc34] at hF
  by_cases hc35 : op = 35
  · rw [if_pos hc35] at hF
    exact jl_tableIn (tgt := 1273) (z := 35) E dL_law_33 hc35 (by decide) (by decide) rfl (by decide) (lc_35 E x3 h1 h2 h3 h4 h5 v w v' w' hf hF kend)
  rw [if_neg hc35] at hF
  by_cases hc36 : op = 36
  · rw [if_pos hc36] at hF
    exact jl_tableIn (tgt := 1306) (z := 36) E dL_law_33 hc36 (by decide) (by decide) rfl (by decide) (lc_36 E x3 h1 h2 h3 h4 h5 v w v' w' hf hF kend)
  rw [if_neg hc36] at hF
  by_cases hc37 : op = 37
  · rw [if_pos hc37] at hF
    exact jl_tableIn (tgt := 1319) (z := 37) E dL_law_33 hc37 (by decide) (by decide) rfl (by decide) (lc_37 E x3 h1 h2 h3 h4 h5 v w v' w' hf hF kend)
  rw [if_neg hc37] at hF
  by_cases hc38 : op = 38
  · rw [if_pos hc38] at hF
    exact jl_tableIn (tgt := 1332) (z := 38) E dL_law_33 hc38 (by decide) (by decide) rfl (by decide) (lc_38 E x3 h1 h2 h3 h4 h5 v w v' w' hf hF kend)
  rw [if_neg hc38] at hF
  by_cases hc39 : op = 39
  · rw [if_pos hc39] at hF
    exact jl_tableIn (tgt := 1365) (z := 39) E dL_law_33 hc39 (by decide) (by decide) rfl (by decide) (lc_39 E x3 h1 h2 h3 h4 h5 v w v' w' hf hF kend)
  rw [if_neg hc39] at hF
  by_cases hc40 : op = 40
  · rw [if_pos hc40] at hF
    exact jl_tableIn (tgt := 1398) (z := 40) E dL_law_33 hc40 (by decide) (by decide) rfl (by decide) (lc_40 E x3 h1 h2 h3 h4 h5 v w v' w' hf hF kend)
  rw [if_neg hc40] at hF
  by_cases hc41 : op = 41
  · rw [if_pos hc41] at hF
    exact jl_tableIn (tgt := 1441) (z := 41) E dL_law_33 hc41 (by decide) (by decide) rfl (by decide) (lc_41 E x3 h1 h2 h3 h4 h5 v w v' w' hf hF kend)
  rw [if_neg hc41] at hF
  by_cases hc42 : op = 42
  · rw [if_pos hc42] at hF
    exact jl_tableIn (tgt := 1484) (z := 42) E dL_law_33 hc42 (by decide) (by decide) rfl (by decide) (lc_42 E x3 h1 h2 h3 h4 h5 v w v' w' hf hF kend)
  rw [if_neg hc42] at hF
  by_cases hc43 : op = 43
  · rw [if_pos hc43] at hF
    exact jl_tableIn (tgt := 1547) (z := 43) E dL_law_33 hc43 (by decide) (by decide) rfl (by decide) (lc_43 E x3 h1 h2 h3 h4 h5 v w v' w' hf hF kend)
  rw [if_neg hc43] at hF
  by_cases hc44 : op = 44
  · rw [if_pos hc44] at hF
    exact jl_tableIn (tgt := 1580) (z := 44) E dL_law_33 hc44 (by decide) (by decide) rfl (by decide) (lc_44 E x3 h1 h2 h3 h4 h5 v w v' w' hf hF kend)
  rw [if_neg hc44] at hF
  by_cases hc45 : op = 45
  · rw [if_pos hc45] at hF
    exact jl_tableIn (tgt := 1613) (z := 45) E dL_law_33 hc45 (by decide) (by decide) rfl (by decide) (lc_45 E x3 h1 h2 h3 h4 h5 v w v' w' hf hF kend)
  rw [if_neg hc45] at hF
  by_cases hc46 : op = 46
  · rw [if_pos hc46] at hF
    exact jl_tableIn (tgt := 1626) (z := 46) E dL_law_33 hc46 (by decide) (by decide) rfl (by decide) (lc_46 E x3 h1 h2 h3 h4 h5 v w v' w' hf hF kend)
  rw [if_neg hc46] at hF
  by_cases hc47 : op = 47
  · rw [if_pos hc47] at hF
    exact jl_tableIn (tgt := 1639) (z := 47) E dL_law_33 hc47 (by decide) (by decide) rfl (by decide) (lc_47 E x3 h1 h2 h3 h4 h5 v w v' w' hf hF kend)
  rw [if_neg hc47] at hF
  by_cases hc48 : op = 48
  · rw [if_pos hc48] at hF
    exact jl_tableIn (tgt := 1652) (z := 48) E dL_law_33 hc48 (by decide) (by decide) rfl (by decide) (lc_48 E x3 h1 h2 h3 h4 h5 v w v' w' hf hF kend)
  rw [if_neg hc48] at hF
  by_cases hc49 : op = 49
  · rw [if_pos hc49] at hF
    exact jl_tableIn (tgt := 1675) (z := 49) E dL_law_33 hc49 (by decide) (by decide) rfl (by decide) (lc_49 E x3 h1 h2 h3 h4 h5 v w v' w' hf hF kend)
  rw [if_neg hc49] at hF
  obtain ⟨rfl, rfl⟩ := jx_out hF
  exact jl_tableOut (tgt := 1698) E dL_law_33 (by have hz0 := jx_ne hc0 (k := 0) (by decide); have hz1 := jx_ne hc1 (k := 1) (by decide); have hz2 := jx_ne hc2 (k := 2) (by decide); have hz3 := jx_ne hc3 (k := 3) (by decide); have hz4 := jx_ne hc4 (k := 4) (by decide); have hz5 := jx_ne hc5 (k := 5) (by decide); have hz6 := jx_ne hc6 (k := 6) (by decide); have hz7 := jx_ne hc7 (k := 7) (by decide); have hz8 := jx_ne hc8 (k := 8) (by decide); have hz9 := jx_ne hc9 (k := 9) (by decide); have hz10 := jx_ne hc10 (k := 10) (by decide); have hz11 := jx_ne hc11 (k := 11) (by decide); have hz12 := jx_ne hc12 (k := 12) (by decide); have hz13 := jx_ne hc13 (k := 13) (by decide); have hz14 := jx_ne hc14 (k := 14) (by decide); have hz15 := jx_ne hc15 (k := 15) (by decide); have hz16 := jx_ne hc16 (k := 16) (by decide); have hz17 := jx_ne hc17 (k := 17) (by decide); have hz18 := jx_ne hc18 (k := 18) (by decide); have hz19 := jx_ne hc19 (k := 19) (by decide); have hz20 := jx_ne hc20 (k := 20) (by decide); have hz21 := jx_ne hc21 (k := 21) (by decide); have hz22 := jx_ne hc22 (k := 22) (by decide); have hz23 := jx_ne hc23 (k := 23) (by decide); have hz24 := jx_ne hc24 (k := 24) (by decide); have hz25 := jx_ne hc25 (k := 25) (by decide); have hz26 := jx_ne hc26 (k := 26) (by decide); have hz27 := jx_ne hc27 (k := 27) (by decide); have hz28 := jx_ne hc28 (k := 28) (by decide); have hz29 := jx_ne hc29 (k := 29) (by decide); have hz30 := jx_ne hc30 (k := 30) (by decide); have hz31 := jx_ne hc31 (k := 31) (by decide); have hz32 := jx_ne hc32 (k := 32) (by decide); have hz33 := jx_ne hc33 (k := 33) (by decide); have hz34 := jx_ne hc34 (k := 34) (by decide); have hz35 := jx_ne hc35 (k := 35) (by decide); have hz36 := jx_ne hc36 (k := 36) (by decide); have hz37 := jx_ne hc37 (k := 37) (by decide); have hz38 := jx_ne hc38 (k := 38) (by decide); have hz39 := jx_ne hc39 (k := 39) (by decide); have hz40 := jx_ne hc40 (k := 40) (by decide); have hz41 := jx_ne hc41 (k := 41) (by decide); have hz42 := jx_ne hc42 (k := 42) (by decide); have hz43 := jx_ne hc43 (k := 43) (by decide); have hz44 := jx_ne hc44 (k := 44) (by decide); have hz45 := jx_ne hc45 (k := 45) (by decide); have hz46 := jx_ne hc46 (k := 46) (by decide); have hz47 := jx_ne hc47 (k := 47) (by decide); have hz48 := jx_ne hc48 (k := 48) (by decide); have hz49 := jx_ne hc49 (k := 49) (by decide); omega) (by decide) kend
