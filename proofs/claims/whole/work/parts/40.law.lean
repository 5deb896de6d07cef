set_option maxRecDepth 100000 in
set_option maxHeartbeats 4000000 in
theorem k_0 {p : Program} {l : Launch} {e : Env} {s : State} {m : MethodId} {args : Array Value} {below : List Frame} {meth : Method} {c : Code} {Q : State → Prop} {P : Pl} {b L : Nat} {xs : Nat → Int32} {c0 : Cond} {i : Int32} (hst : l.stackTraces = false) (hA : Adr P) (hn : 38 ≤ P.2.2.2.1) (S : CallFix p m c cL_law 10 s args (c0 :: ALLW) RL) (hF : Fx P s) (hX : va_X b L xs s s.heap) (hbl : b < s.heap.size) (hbA : ¬ Ab P.2.2.2.2.1 b) (h1 : vp_in (i + 1) L) (h2 : vp_in (i + 2) L) (h3 : vp_in (i + 3) L) {w w' : Wo} {H : Heap} {locs : List Loc} {cells slots : Nat} {ls : Array Slot} (h : F_K_0 w (xs (Int32.toNatClampNeg (i + 1))) (xs (Int32.toNatClampNeg (i + 2))) (xs (Int32.toNatClampNeg (i + 3))) = some w') (hP : St P s w H locs) (hl : lv_has ls 10 (lvL P b i)) (hc : cells + 2 ≤ room_1.cells) (hs : slots + 12 ≤ room_1.slots)
    (kk : ∀ (H1 : Heap) (locs1 : List Loc) (ls1 : Array Slot), St P s w' H1 locs1 → lv_has ls1 10 (lvL P b i) → W p l e room_1 s m args below meth c H1 locs1 (cells + 2) (slots + 12) Q (F0 m 2158 ls1 [])) : W p l e room_1 s m args below meth c H locs cells slots Q (F0 m 216 ls []) := by
  have hx := S.1
  have hb := S.2.1
  have hlt : ∀ h, h < 38 → h < P.2.2.2.1 := fun h q => Nat.lt_of_lt_of_le q hn
  unfold F_K_0 at h
  refine lv_aload_n hx hb dL_law_216 rfl (lv_at hl 4 rfl) ?_
  refine lv_aload_n hx hb dL_law_217 rfl (lv_at hl 5 rfl) ?_
  refine lv_iload hx hb dL_law_218 (lv_at hl 0 rfl) ?_
  refine lv_iconst (v := 1) hx hb dL_law_220 (by decide) ?_
  refine lv_iadd hx hb dL_law_221 ?_
  refine va_sld hx hb hX hbl hbA hP.2 h1 dL_law_222 ?_
  refine lv_aload_n hx hb dL_law_223 rfl (lv_at hl 5 rfl) ?_
  refine lv_iload hx hb dL_law_224 (lv_at hl 0 rfl) ?_
  refine lv_iconst (v := 2) hx hb dL_law_226 (by decide) ?_
  refine lv_iadd hx hb dL_law_227 ?_
  refine va_sld hx hb hX hbl hbA hP.2 h2 dL_law_228 ?_
  refine lv_aload_n hx hb dL_law_229 rfl (lv_at hl 2 rfl) ?_
  obtain ⟨q1, hq1, h⟩ := ob h
  refine vu_SW S hF hP (c_L_board l P hA hn hst (xs (Int32.toNatClampNeg (i + 1))) (xs (Int32.toNatClampNeg (i + 2))) w hq1) ok_L_board ml_L_126 ⟨Nat.le_of_ble_eq_true rfl, Nat.le_of_ble_eq_true rfl⟩ rfl hl.1 rfl (Nat.le_of_ble_eq_true rfl) dL_law_230 ⟨by omega, by omega⟩ (fun H locs hP => ?_)
  refine lv_istore (lv' := [(6, .int q1.1), (5, .int i), (4, .ref (P.2.1 37)), (3, .ref (P.2.1 36)), (2, .ref (P.2.1 26)), (1, .ref (P.2.1 0)), (0, .ref b)]) hx hb dL_law_233 hl (by decide) rfl (fun ls hl => ?_)
  refine lv_aload_n hx hb dL_law_235 rfl (lv_at hl 4 rfl) ?_
  refine lv_aload_n hx hb dL_law_236 rfl (lv_at hl 6 rfl) ?_
  refine lv_iload hx hb dL_law_237 (lv_at hl 1 rfl) ?_
  refine lv_iconst (v := 1) hx hb dL_law_239 (by decide) ?_
  refine lv_iadd hx hb dL_law_240 ?_
  refine va_sld hx hb hX hbl hbA hP.2 h1 dL_law_241 ?_
  refine lv_aload_n hx hb dL_law_242 rfl (lv_at hl 6 rfl) ?_
  refine lv_iload hx hb dL_law_243 (lv_at hl 1 rfl) ?_
  refine lv_iconst (v := 2) hx hb dL_law_245 (by decide) ?_
  refine lv_iadd hx hb dL_law_246 ?_
  refine va_sld hx hb hX hbl hbA hP.2 h2 dL_law_247 ?_
  obtain ⟨q2, hq2, h⟩ := ob h
  refine vu_i hP (vu_V S hF hP (h := 26) (hlt 26 (by decide)) rfl (by decide) rfl (c_X6_board l P hA (Nat.le_trans (by decide) hn) q1.2 (xs (Int32.toNatClampNeg (i + 1))) (xs (Int32.toNatClampNeg (i + 2))) hq2) ok_X6_board ml_L_131 ⟨Nat.le_of_ble_eq_true rfl, Nat.le_of_ble_eq_true rfl⟩ rfl hl.1 rfl (Nat.le_of_ble_eq_true rfl) dL_law_248 ⟨by omega, by omega⟩) (fun H locs _ hP => ?_)
  refine lv_istore (lv' := [(7, .int q2.1), (6, .int q1.1), (5, .int i), (4, .ref (P.2.1 37)), (3, .ref (P.2.1 36)), (2, .ref (P.2.1 26)), (1, .ref (P.2.1 0)), (0, .ref b)]) hx hb dL_law_251 hl (by decide) rfl (fun ls hl => ?_)
  refine lv_aload_n hx hb dL_law_253 rfl (lv_at hl 5 rfl) ?_
  refine vu_i hP (vu_V S hF hP (h := 26) (hlt 26 (by decide)) rfl (by decide) rfl (c_X6_thrown l P hA (Nat.le_trans (by decide) hn) q2.2) ok_X6_thrown ml_L_132 ⟨Nat.le_of_ble_eq_true rfl, Nat.le_of_ble_eq_true rfl⟩ rfl hl.1 rfl (Nat.le_of_ble_eq_true rfl) dL_law_254 ⟨by omega, by omega⟩) (fun H locs _ hP => ?_)
  refine lv_iload hx hb dL_law_257 (lv_at hl 1 rfl) ?_
  obtain ⟨ck3, h⟩ := chk h
  refine lv_icmp_eq (tgt := 264) hx hb dL_law_259 (by decide) (fun _ => ?_) (fun c9 => absurd ck3 c9)
  refine lv_iload hx hb dL_law_264 (lv_at hl 1 rfl) ?_
  obtain ⟨ck5, h⟩ := chk h
  obtain rfl := Option.some.inj h
  refine lv_if_ne (tgt := 281) hx hb dL_law_266 (by decide) (fun c4 => ?_) (fun c4 => ?_)
  · refine lv_goto (tgt := 2158) hx hb dL_law_281 (by decide) ?_
    refine W.widen (k := cells + 2) (n := slots + 12) (by omega) (by omega) ?_
    exact kk _ _ _ hP (lv_sub hl [2, 3, 4, 5, 6, 7] rfl)
  · refine lv_aload_n hx hb dL_law_269 rfl (lv_at hl 4 rfl) ?_
    refine lv_iconst (v := 0) hx hb dL_law_270 (by decide) ?_
    refine vt_laldK (n := 1) 0 (by decide) S hF hP (hlt 36 (by decide)) rfl (by decide) dL_law_271 ?_
    refine lv_iload hx hb dL_law_272 (lv_at hl 0 rfl) ?_
    refine lv_i2l hx hb dL_law_274 rfl ?_
    refine W.lcmp hx hb dL_law_275 ?_
    refine lv_if_eq (tgt := 281) hx hb dL_law_276 (by decide) (fun _ => ?_) (fun c9 => absurd (ck5 c4) c9)
    refine lv_goto (tgt := 2158) hx hb dL_law_281 (by decide) ?_
    refine W.widen (k := cells + 2) (n := slots + 12) (by omega) (by omega) ?_
    exact kk _ _ _ hP (lv_sub hl [2, 3, 4, 5, 6, 7] rfl)
set_option maxRecDepth 100000 in
set_option maxHeartbeats 4000000 in
theorem k_1 {p : Program} {l : Launch} {e : Env} {s : State} {m : MethodId} {args : Array Value} {below : List Frame} {meth : Method} {c : Code} {Q : State → Prop} {P : Pl} {b L : Nat} {xs : Nat → Int32} {c0 : Cond} {i : Int32} (hst : l.stackTraces = false) (hA : Adr P) (hn : 38 ≤ P.2.2.2.1) (S : CallFix p m c cL_law 10 s args (c0 :: ALLW) RL) (hF : Fx P s) (hX : va_X b L xs s s.heap) (hbl : b < s.heap.size) (hbA : ¬ Ab P.2.2.2.2.1 b) (h1 : vp_in (i + 1) L) (h2 : vp_in (i + 2) L) (h3 : vp_in (i + 3) L) {w w' : Wo} {H : Heap} {locs : List Loc} {cells slots : Nat} {ls : Array Slot} (h : F_K_1 w (xs (Int32.toNatClampNeg (i + 1))) (xs (Int32.toNatClampNeg (i + 2))) (xs (Int32.toNatClampNeg (i + 3))) = some w') (hP : St P s w H locs) (hl : lv_has ls 10 (lvL P b i)) (hc : cells + 2 ≤ room_1.cells) (hs : slots + 12 ≤ room_1.slots)
    (kk : ∀ (H1 : Heap) (locs1 : List Loc) (ls1 : Array Slot), St P s w' H1 locs1 → lv_has ls1 10 (lvL P b i) → W p l e room_1 s m args below meth c H1 locs1 (cells + 2) (slots + 12) Q (F0 m 2158 ls1 [])) : W p l e room_1 s m args below meth c H locs cells slots Q (F0 m 284 ls []) := by
  have hx := S.1
  have hb := S.2.1
  have hlt : ∀ h, h < 38 → h < P.2.2.2.1 := fun h q => Nat.lt_of_lt_of_le q hn
  unfold F_K_1 at h
  refine lv_aload_n hx hb dL_law_284 rfl (lv_at hl 4 rfl) ?_
  refine lv_aload_n hx hb dL_law_285 rfl (lv_at hl 5 rfl) ?_
  refine lv_iload hx hb dL_law_286 (lv_at hl 0 rfl) ?_
  refine lv_iconst (v := 1) hx hb dL_law_288 (by decide) ?_
  refine lv_iadd hx hb dL_law_289 ?_
  refine va_sld hx hb hX hbl hbA hP.2 h1 dL_law_290 ?_
  refine lv_aload_n hx hb dL_law_291 rfl (lv_at hl 5 rfl) ?_
  refine lv_iload hx hb dL_law_292 (lv_at hl 0 rfl) ?_
  refine lv_iconst (v := 2) hx hb dL_law_294 (by decide) ?_
  refine lv_iadd hx hb dL_law_295 ?_
  refine va_sld hx hb hX hbl hbA hP.2 h2 dL_law_296 ?_
  refine lv_i2c hx hb dL_law_297 rfl ?_
  refine lv_aload_n hx hb dL_law_298 rfl (lv_at hl 2 rfl) ?_
  obtain ⟨q1, hq1, h⟩ := ob h
  refine vu_SW S hF hP (c_L_put l P hA hn hst (xs (Int32.toNatClampNeg (i + 1))) (ji2c (xs (Int32.toNatClampNeg (i + 2)))) w hq1) ok_L_put ml_L_135 ⟨Nat.le_of_ble_eq_true rfl, Nat.le_of_ble_eq_true rfl⟩ rfl hl.1 rfl (Nat.le_of_ble_eq_true rfl) dL_law_299 ⟨by omega, by omega⟩ (fun H locs hP => ?_)
  refine lv_istore (lv' := [(6, .int q1.1), (5, .int i), (4, .ref (P.2.1 37)), (3, .ref (P.2.1 36)), (2, .ref (P.2.1 26)), (1, .ref (P.2.1 0)), (0, .ref b)]) hx hb dL_law_302 hl (by decide) rfl (fun ls hl => ?_)
  refine lv_aload_n hx hb dL_law_304 rfl (lv_at hl 4 rfl) ?_
  refine lv_aload_n hx hb dL_law_305 rfl (lv_at hl 6 rfl) ?_
  refine lv_iload hx hb dL_law_306 (lv_at hl 1 rfl) ?_
  refine lv_iconst (v := 1) hx hb dL_law_308 (by decide) ?_
  refine lv_iadd hx hb dL_law_309 ?_
  refine va_sld hx hb hX hbl hbA hP.2 h1 dL_law_310 ?_
  refine lv_aload_n hx hb dL_law_311 rfl (lv_at hl 6 rfl) ?_
  refine lv_iload hx hb dL_law_312 (lv_at hl 1 rfl) ?_
  refine lv_iconst (v := 2) hx hb dL_law_314 (by decide) ?_
  refine lv_iadd hx hb dL_law_315 ?_
  refine va_sld hx hb hX hbl hbA hP.2 h2 dL_law_316 ?_
  refine lv_i2c hx hb dL_law_317 rfl ?_
  obtain ⟨q2, hq2, h⟩ := ob h
  refine vu_i hP (vu_V S hF hP (h := 26) (hlt 26 (by decide)) rfl (by decide) rfl (c_X6_put l P hA (Nat.le_trans (by decide) hn) q1.2 (xs (Int32.toNatClampNeg (i + 1))) (ji2c (xs (Int32.toNatClampNeg (i + 2)))) hq2) ok_X6_put ml_L_138 ⟨Nat.le_of_ble_eq_true rfl, Nat.le_of_ble_eq_true rfl⟩ rfl hl.1 rfl (Nat.le_of_ble_eq_true rfl) dL_law_318 ⟨by omega, by omega⟩) (fun H locs _ hP => ?_)
  refine lv_istore (lv' := [(7, .int q2.1), (6, .int q1.1), (5, .int i), (4, .ref (P.2.1 37)), (3, .ref (P.2.1 36)), (2, .ref (P.2.1 26)), (1, .ref (P.2.1 0)), (0, .ref b)]) hx hb dL_law_321 hl (by decide) rfl (fun ls hl => ?_)
  refine lv_aload_n hx hb dL_law_323 rfl (lv_at hl 5 rfl) ?_
  refine vu_i hP (vu_V S hF hP (h := 26) (hlt 26 (by decide)) rfl (by decide) rfl (c_X6_thrown l P hA (Nat.le_trans (by decide) hn) q2.2) ok_X6_thrown ml_L_132 ⟨Nat.le_of_ble_eq_true rfl, Nat.le_of_ble_eq_true rfl⟩ rfl hl.1 rfl (Nat.le_of_ble_eq_true rfl) dL_law_324 ⟨by omega, by omega⟩) (fun H locs _ hP => ?_)
  refine lv_iload hx hb dL_law_327 (lv_at hl 1 rfl) ?_
  obtain ⟨ck3, h⟩ := chk h
  refine lv_icmp_eq (tgt := 334) hx hb dL_law_329 (by decide) (fun _ => ?_) (fun c9 => absurd ck3 c9)
  refine lv_iload hx hb dL_law_334 (lv_at hl 1 rfl) ?_
  obtain ⟨ck5, h⟩ := chk h
  obtain rfl := Option.some.inj h
  refine lv_if_ne (tgt := 351) hx hb dL_law_336 (by decide) (fun c4 => ?_) (fun c4 => ?_)
  · refine lv_goto (tgt := 2158) hx hb dL_law_351 (by decide) ?_
    refine W.widen (k := cells + 2) (n := slots + 12) (by omega) (by omega) ?_
    exact kk _ _ _ hP (lv_sub hl [2, 3, 4, 5, 6, 7] rfl)
  · refine lv_aload_n hx hb dL_law_339 rfl (lv_at hl 4 rfl) ?_
    refine lv_iconst (v := 0) hx hb dL_law_340 (by decide) ?_
    refine vt_laldK (n := 1) 0 (by decide) S hF hP (hlt 36 (by decide)) rfl (by decide) dL_law_341 ?_
    refine lv_iload hx hb dL_law_342 (lv_at hl 0 rfl) ?_
    refine lv_i2l hx hb dL_law_344 rfl ?_
    refine W.lcmp hx hb dL_law_345 ?_
    refine lv_if_eq (tgt := 351) hx hb dL_law_346 (by decide) (fun _ => ?_) (fun c9 => absurd (ck5 c4) c9)
    refine lv_goto (tgt := 2158) hx hb dL_law_351 (by decide) ?_
    refine W.widen (k := cells + 2) (n := slots + 12) (by omega) (by omega) ?_
    exact kk _ _ _ hP (lv_sub hl [2, 3, 4, 5, 6, 7] rfl)
set_option maxRecDepth 100000 in
set_option maxHeartbeats 4000000 in
theorem k_2 {p : Program} {l : Launch} {e : Env} {s : State} {m : MethodId} {args : Array Value} {below : List Frame} {meth : Method} {c : Code} {Q : State → Prop} {P : Pl} {b L : Nat} {xs : Nat → Int32} {c0 : Cond} {i : Int32} (hst : l.stackTraces = false) (hA : Adr P) (hn : 38 ≤ P.2.2.2.1) (S : CallFix p m c cL_law 10 s args (c0 :: ALLW) RL) (hF : Fx P s) (hX : va_X b L xs s s.heap) (hbl : b < s.heap.size) (hbA : ¬ Ab P.2.2.2.2.1 b) (h1 : vp_in (i + 1) L) (h2 : vp_in (i + 2) L) (h3 : vp_in (i + 3) L) {w w' : Wo} {H : Heap} {locs : List Loc} {cells slots : Nat} {ls : Array Slot} (h : F_K_2 w (xs (Int32.toNatClampNeg (i + 1))) (xs (Int32.toNatClampNeg (i + 2))) (xs (Int32.toNatClampNeg (i + 3))) = some w') (hP : St P s w H locs) (hl : lv_has ls 10 (lvL P b i)) (hc : cells + 2 ≤ room_1.cells) (hs : slots + 12 ≤ room_1.slots)
    (kk : ∀ (H1 : Heap) (locs1 : List Loc) (ls1 : Array Slot), St P s w' H1 locs1 → lv_has ls1 10 (lvL P b i) → W p l e room_1 s m args below meth c H1 locs1 (cells + 2) (slots + 12) Q (F0 m 2158 ls1 [])) : W p l e room_1 s m args below meth c H locs cells slots Q (F0 m 354 ls []) := by
  have hx := S.1
  have hb := S.2.1
  have hlt : ∀ h, h < 38 → h < P.2.2.2.1 := fun h q => Nat.lt_of_lt_of_le q hn
  unfold F_K_2 at h
  refine lv_aload_n hx hb dL_law_354 rfl (lv_at hl 4 rfl) ?_
  refine lv_aload_n hx hb dL_law_355 rfl (lv_at hl 5 rfl) ?_
  refine lv_iload hx hb dL_law_356 (lv_at hl 0 rfl) ?_
  refine lv_iconst (v := 1) hx hb dL_law_358 (by decide) ?_
  refine lv_iadd hx hb dL_law_359 ?_
  refine va_sld hx hb hX hbl hbA hP.2 h1 dL_law_360 ?_
  refine lv_aload_n hx hb dL_law_361 rfl (lv_at hl 5 rfl) ?_
  refine lv_iload hx hb dL_law_362 (lv_at hl 0 rfl) ?_
  refine lv_iconst (v := 2) hx hb dL_law_364 (by decide) ?_
  refine lv_iadd hx hb dL_law_365 ?_
  refine va_sld hx hb hX hbl hbA hP.2 h2 dL_law_366 ?_
  refine lv_i2c hx hb dL_law_367 rfl ?_
  refine lv_aload_n hx hb dL_law_368 rfl (lv_at hl 2 rfl) ?_
  obtain ⟨q1, hq1, h⟩ := ob h
  refine vu_SW S hF hP (c_L_goal l P hA hn hst (xs (Int32.toNatClampNeg (i + 1))) (ji2c (xs (Int32.toNatClampNeg (i + 2)))) w hq1) ok_L_goal ml_L_139 ⟨Nat.le_of_ble_eq_true rfl, Nat.le_of_ble_eq_true rfl⟩ rfl hl.1 rfl (Nat.le_of_ble_eq_true rfl) dL_law_369 ⟨by omega, by omega⟩ (fun H locs hP => ?_)
  refine lv_istore (lv' := [(6, .int q1.1), (5, .int i), (4, .ref (P.2.1 37)), (3, .ref (P.2.1 36)), (2, .ref (P.2.1 26)), (1, .ref (P.2.1 0)), (0, .ref b)]) hx hb dL_law_372 hl (by decide) rfl (fun ls hl => ?_)
  refine lv_aload_n hx hb dL_law_374 rfl (lv_at hl 4 rfl) ?_
  refine lv_aload_n hx hb dL_law_375 rfl (lv_at hl 6 rfl) ?_
  refine lv_iload hx hb dL_law_376 (lv_at hl 1 rfl) ?_
  refine lv_iconst (v := 1) hx hb dL_law_378 (by decide) ?_
  refine lv_iadd hx hb dL_law_379 ?_
  refine va_sld hx hb hX hbl hbA hP.2 h1 dL_law_380 ?_
  refine lv_aload_n hx hb dL_law_381 rfl (lv_at hl 6 rfl) ?_
  refine lv_iload hx hb dL_law_382 (lv_at hl 1 rfl) ?_
  refine lv_iconst (v := 2) hx hb dL_law_384 (by decide) ?_
  refine lv_iadd hx hb dL_law_385 ?_
  refine va_sld hx hb hX hbl hbA hP.2 h2 dL_law_386 ?_
  refine lv_i2c hx hb dL_law_387 rfl ?_
  obtain ⟨q2, hq2, h⟩ := ob h
  refine vu_i hP (vu_V S hF hP (h := 26) (hlt 26 (by decide)) rfl (by decide) rfl (c_X6_goal l P hA (Nat.le_trans (by decide) hn) q1.2 (xs (Int32.toNatClampNeg (i + 1))) (ji2c (xs (Int32.toNatClampNeg (i + 2)))) hq2) ok_X6_goal ml_L_141 ⟨Nat.le_of_ble_eq_true rfl, Nat.le_of_ble_eq_true rfl⟩ rfl hl.1 rfl (Nat.le_of_ble_eq_true rfl) dL_law_388 ⟨by omega, by omega⟩) (fun H locs _ hP => ?_)
  refine lv_istore (lv' := [(7, .int q2.1), (6, .int q1.1), (5, .int i), (4, .ref (P.2.1 37)), (3, .ref (P.2.1 36)), (2, .ref (P.2.1 26)), (1, .ref (P.2.1 0)), (0, .ref b)]) hx hb dL_law_391 hl (by decide) rfl (fun ls hl => ?_)
  refine lv_aload_n hx hb dL_law_393 rfl (lv_at hl 5 rfl) ?_
  refine vu_i hP (vu_V S hF hP (h := 26) (hlt 26 (by decide)) rfl (by decide) rfl (c_X6_thrown l P hA (Nat.le_trans (by decide) hn) q2.2) ok_X6_thrown ml_L_132 ⟨Nat.le_of_ble_eq_true rfl, Nat.le_of_ble_eq_true rfl⟩ rfl hl.1 rfl (Nat.le_of_ble_eq_true rfl) dL_law_394 ⟨by omega, by omega⟩) (fun H locs _ hP => ?_)
  refine lv_iload hx hb dL_law_397 (lv_at hl 1 rfl) ?_
  obtain ⟨ck3, h⟩ := chk h
  refine lv_icmp_eq (tgt := 404) hx hb dL_law_399 (by decide) (fun _ => ?_) (fun c9 => absurd ck3 c9)
  refine lv_iload hx hb dL_law_404 (lv_at hl 1 rfl) ?_
  obtain ⟨ck5, h⟩ := chk h
  obtain rfl := Option.some.inj h
  refine lv_if_ne (tgt := 421) hx hb dL_law_406 (by decide) (fun c4 => ?_) (fun c4 => ?_)
  · refine lv_goto (tgt := 2158) hx hb dL_law_421 (by decide) ?_
    refine W.widen (k := cells + 2) (n := slots + 12) (by omega) (by omega) ?_
    exact kk _ _ _ hP (lv_sub hl [2, 3, 4, 5, 6, 7] rfl)
  · refine lv_aload_n hx hb dL_law_409 rfl (lv_at hl 4 rfl) ?_
    refine lv_iconst (v := 0) hx hb dL_law_410 (by decide) ?_
    refine vt_laldK (n := 1) 0 (by decide) S hF hP (hlt 36 (by decide)) rfl (by decide) dL_law_411 ?_
    refine lv_iload hx hb dL_law_412 (lv_at hl 0 rfl) ?_
    refine lv_i2l hx hb dL_law_414 rfl ?_
    refine W.lcmp hx hb dL_law_415 ?_
    refine lv_if_eq (tgt := 421) hx hb dL_law_416 (by decide) (fun _ => ?_) (fun c9 => absurd (ck5 c4) c9)
    refine lv_goto (tgt := 2158) hx hb dL_law_421 (by decide) ?_
    refine W.widen (k := cells + 2) (n := slots + 12) (by omega) (by omega) ?_
    exact kk _ _ _ hP (lv_sub hl [2, 3, 4, 5, 6, 7] rfl)
set_option maxRecDepth 100000 in
set_option maxHeartbeats 4000000 in
theorem k_3 {p : Program} {l : Launch} {e : Env} {s : State} {m : MethodId} {args : Array Value} {below : List Frame} {meth : Method} {c : Code} {Q : State → Prop} {P : Pl} {b L : Nat} {xs : Nat → Int32} {c0 : Cond} {i : Int32} (hst : l.stackTraces = false) (hA : Adr P) (hn : 38 ≤ P.2.2.2.1) (S : CallFix p m c cL_law 10 s args (c0 :: ALLW) RL) (hF : Fx P s) (hX : va_X b L xs s s.heap) (hbl : b < s.heap.size) (hbA : ¬ Ab P.2.2.2.2.1 b) (h1 : vp_in (i + 1) L) (h2 : vp_in (i + 2) L) (h3 : vp_in (i + 3) L) {w w' : Wo} {H : Heap} {locs : List Loc} {cells slots : Nat} {ls : Array Slot} (h : F_K_3 w (xs (Int32.toNatClampNeg (i + 1))) (xs (Int32.toNatClampNeg (i + 2))) (xs (Int32.toNatClampNeg (i + 3))) = some w') (hP : St P s w H locs) (hl : lv_has ls 10 (lvL P b i)) (hc : cells + 2 ≤ room_1.cells) (hs : slots + 12 ≤ room_1.slots)
    (kk : ∀ (H1 : Heap) (locs1 : List Loc) (ls1 : Array Slot), St P s w' H1 locs1 → lv_has ls1 10 (lvL P b i) → W p l e room_1 s m args below meth c H1 locs1 (cells + 2) (slots + 12) Q (F0 m 2158 ls1 [])) : W p l e room_1 s m args below meth c H locs cells slots Q (F0 m 424 ls []) := by
  have hx := S.1
  have hb := S.2.1
  have hlt : ∀ h, h < 38 → h < P.2.2.2.1 := fun h q => Nat.lt_of_lt_of_le q hn
  unfold F_K_3 at h
  refine lv_aload_n hx hb dL_law_424 rfl (lv_at hl 4 rfl) ?_
  refine lv_aload_n hx hb dL_law_425 rfl (lv_at hl 5 rfl) ?_
  refine lv_iload hx hb dL_law_426 (lv_at hl 0 rfl) ?_
  refine lv_iconst (v := 1) hx hb dL_law_428 (by decide) ?_
  refine lv_iadd hx hb dL_law_429 ?_
  refine va_sld hx hb hX hbl hbA hP.2 h1 dL_law_430 ?_
  refine lv_aload_n hx hb dL_law_431 rfl (lv_at hl 2 rfl) ?_
  obtain ⟨q1, hq1, h⟩ := ob h
  refine vu_SW S hF hP (c_L_turn l P hA hn hst (xs (Int32.toNatClampNeg (i + 1))) w hq1) ok_L_turn ml_L_142 ⟨Nat.le_of_ble_eq_true rfl, Nat.le_of_ble_eq_true rfl⟩ rfl hl.1 rfl (Nat.le_of_ble_eq_true rfl) dL_law_432 ⟨by omega, by omega⟩ (fun H locs hP => ?_)
  refine lv_istore (lv' := [(6, .int q1.1), (5, .int i), (4, .ref (P.2.1 37)), (3, .ref (P.2.1 36)), (2, .ref (P.2.1 26)), (1, .ref (P.2.1 0)), (0, .ref b)]) hx hb dL_law_435 hl (by decide) rfl (fun ls hl => ?_)
  refine lv_aload_n hx hb dL_law_437 rfl (lv_at hl 4 rfl) ?_
  refine lv_aload_n hx hb dL_law_438 rfl (lv_at hl 6 rfl) ?_
  refine lv_iload hx hb dL_law_439 (lv_at hl 1 rfl) ?_
  refine lv_iconst (v := 1) hx hb dL_law_441 (by decide) ?_
  refine lv_iadd hx hb dL_law_442 ?_
  refine va_sld hx hb hX hbl hbA hP.2 h1 dL_law_443 ?_
  obtain ⟨q2, hq2, h⟩ := ob h
  refine vu_i hP (vu_V S hF hP (h := 26) (hlt 26 (by decide)) rfl (by decide) rfl (c_X6_turn l P hA (Nat.le_trans (by decide) hn) q1.2 (xs (Int32.toNatClampNeg (i + 1))) hq2) ok_X6_turn ml_L_145 ⟨Nat.le_of_ble_eq_true rfl, Nat.le_of_ble_eq_true rfl⟩ rfl hl.1 rfl (Nat.le_of_ble_eq_true rfl) dL_law_444 ⟨by omega, by omega⟩) (fun H locs _ hP => ?_)
  refine lv_istore (lv' := [(7, .int q2.1), (6, .int q1.1), (5, .int i), (4, .ref (P.2.1 37)), (3, .ref (P.2.1 36)), (2, .ref (P.2.1 26)), (1, .ref (P.2.1 0)), (0, .ref b)]) hx hb dL_law_447 hl (by decide) rfl (fun ls hl => ?_)
  refine lv_aload_n hx hb dL_law_449 rfl (lv_at hl 5 rfl) ?_
  refine vu_i hP (vu_V S hF hP (h := 26) (hlt 26 (by decide)) rfl (by decide) rfl (c_X6_thrown l P hA (Nat.le_trans (by decide) hn) q2.2) ok_X6_thrown ml_L_132 ⟨Nat.le_of_ble_eq_true rfl, Nat.le_of_ble_eq_true rfl⟩ rfl hl.1 rfl (Nat.le_of_ble_eq_true rfl) dL_law_450 ⟨by omega, by omega⟩) (fun H locs _ hP => ?_)
  refine lv_iload hx hb dL_law_453 (lv_at hl 1 rfl) ?_
  obtain ⟨ck3, h⟩ := chk h
  refine lv_icmp_eq (tgt := 460) hx hb dL_law_455 (by decide) (fun _ => ?_) (fun c9 => absurd ck3 c9)
  refine lv_iload hx hb dL_law_460 (lv_at hl 1 rfl) ?_
  obtain ⟨ck5, h⟩ := chk h
  obtain rfl := Option.some.inj h
  refine lv_if_ne (tgt := 477) hx hb dL_law_462 (by decide) (fun c4 => ?_) (fun c4 => ?_)
  · refine lv_goto (tgt := 2158) hx hb dL_law_477 (by decide) ?_
    refine W.widen (k := cells + 2) (n := slots + 12) (by omega) (by omega) ?_
    exact kk _ _ _ hP (lv_sub hl [2, 3, 4, 5, 6, 7] rfl)
  · refine lv_aload_n hx hb dL_law_465 rfl (lv_at hl 4 rfl) ?_
    refine lv_iconst (v := 0) hx hb dL_law_466 (by decide) ?_
    refine vt_laldK (n := 1) 0 (by decide) S hF hP (hlt 36 (by decide)) rfl (by decide) dL_law_467 ?_
    refine lv_iload hx hb dL_law_468 (lv_at hl 0 rfl) ?_
    refine lv_i2l hx hb dL_law_470 rfl ?_
    refine W.lcmp hx hb dL_law_471 ?_
    refine lv_if_eq (tgt := 477) hx hb dL_law_472 (by decide) (fun _ => ?_) (fun c9 => absurd (ck5 c4) c9)
    refine lv_goto (tgt := 2158) hx hb dL_law_477 (by decide) ?_
    refine W.widen (k := cells + 2) (n := slots + 12) (by omega) (by omega) ?_
    exact kk _ _ _ hP (lv_sub hl [2, 3, 4, 5, 6, 7] rfl)
set_option maxRecDepth 100000 in
set_option maxHeartbeats 4000000 in
theorem k_4 {p : Program} {l : Launch} {e : Env} {s : State} {m : MethodId} {args : Array Value} {below : List Frame} {meth : Method} {c : Code} {Q : State → Prop} {P : Pl} {b L : Nat} {xs : Nat → Int32} {c0 : Cond} {i : Int32} (hst : l.stackTraces = false) (hA : Adr P) (hn : 38 ≤ P.2.2.2.1) (S : CallFix p m c cL_law 10 s args (c0 :: ALLW) RL) (hF : Fx P s) (hX : va_X b L xs s s.heap) (hbl : b < s.heap.size) (hbA : ¬ Ab P.2.2.2.2.1 b) (h1 : vp_in (i + 1) L) (h2 : vp_in (i + 2) L) (h3 : vp_in (i + 3) L) {w w' : Wo} {H : Heap} {locs : List Loc} {cells slots : Nat} {ls : Array Slot} (h : F_K_4 w (xs (Int32.toNatClampNeg (i + 1))) (xs (Int32.toNatClampNeg (i + 2))) (xs (Int32.toNatClampNeg (i + 3))) = some w') (hP : St P s w H locs) (hl : lv_has ls 10 (lvL P b i)) (hc : cells + 2 ≤ room_1.cells) (hs : slots + 12 ≤ room_1.slots)
    (kk : ∀ (H1 : Heap) (locs1 : List Loc) (ls1 : Array Slot), St P s w' H1 locs1 → lv_has ls1 10 (lvL P b i) → W p l e room_1 s m args below meth c H1 locs1 (cells + 2) (slots + 12) Q (F0 m 2158 ls1 [])) : W p l e room_1 s m args below meth c H locs cells slots Q (F0 m 480 ls []) := by
  have hx := S.1
  have hb := S.2.1
  have hlt : ∀ h, h < 38 → h < P.2.2.2.1 := fun h q => Nat.lt_of_lt_of_le q hn
  unfold F_K_4 at h
  refine lv_aload_n hx hb dL_law_480 rfl (lv_at hl 4 rfl) ?_
  refine lv_aload_n hx hb dL_law_481 rfl (lv_at hl 5 rfl) ?_
  refine lv_iload hx hb dL_law_482 (lv_at hl 0 rfl) ?_
  refine lv_iconst (v := 1) hx hb dL_law_484 (by decide) ?_
  refine lv_iadd hx hb dL_law_485 ?_
  refine va_sld hx hb hX hbl hbA hP.2 h1 dL_law_486 ?_
  refine lv_aload_n hx hb dL_law_487 rfl (lv_at hl 5 rfl) ?_
  refine lv_iload hx hb dL_law_488 (lv_at hl 0 rfl) ?_
  refine lv_iconst (v := 2) hx hb dL_law_490 (by decide) ?_
  refine lv_iadd hx hb dL_law_491 ?_
  refine va_sld hx hb hX hbl hbA hP.2 h2 dL_law_492 ?_
  refine lv_aload_n hx hb dL_law_493 rfl (lv_at hl 2 rfl) ?_
  obtain ⟨q1, hq1, h⟩ := ob h
  refine vu_SW S hF hP (c_L_swap l P hA hn hst (xs (Int32.toNatClampNeg (i + 1))) (xs (Int32.toNatClampNeg (i + 2))) w hq1) ok_L_swap ml_L_146 ⟨Nat.le_of_ble_eq_true rfl, Nat.le_of_ble_eq_true rfl⟩ rfl hl.1 rfl (Nat.le_of_ble_eq_true rfl) dL_law_494 ⟨by omega, by omega⟩ (fun H locs hP => ?_)
  refine lv_istore (lv' := [(6, .int q1.1), (5, .int i), (4, .ref (P.2.1 37)), (3, .ref (P.2.1 36)), (2, .ref (P.2.1 26)), (1, .ref (P.2.1 0)), (0, .ref b)]) hx hb dL_law_497 hl (by decide) rfl (fun ls hl => ?_)
  refine lv_aload_n hx hb dL_law_499 rfl (lv_at hl 4 rfl) ?_
  refine lv_aload_n hx hb dL_law_500 rfl (lv_at hl 6 rfl) ?_
  refine lv_iload hx hb dL_law_501 (lv_at hl 1 rfl) ?_
  refine lv_iconst (v := 1) hx hb dL_law_503 (by decide) ?_
  refine lv_iadd hx hb dL_law_504 ?_
  refine va_sld hx hb hX hbl hbA hP.2 h1 dL_law_505 ?_
  refine lv_aload_n hx hb dL_law_506 rfl (lv_at hl 6 rfl) ?_
  refine lv_iload hx hb dL_law_507 (lv_at hl 1 rfl) ?_
  refine lv_iconst (v := 2) hx hb dL_law_509 (by decide) ?_
  refine lv_iadd hx hb dL_law_510 ?_
  refine va_sld hx hb hX hbl hbA hP.2 h2 dL_law_511 ?_
  obtain ⟨q2, hq2, h⟩ := ob h
  refine vu_i hP (vu_V S hF hP (h := 26) (hlt 26 (by decide)) rfl (by decide) rfl (c_X6_swap l P hA (Nat.le_trans (by decide) hn) q1.2 (xs (Int32.toNatClampNeg (i + 1))) (xs (Int32.toNatClampNeg (i + 2))) hq2) ok_X6_swap ml_L_148 ⟨Nat.le_of_ble_eq_true rfl, Nat.le_of_ble_eq_true rfl⟩ rfl hl.1 rfl (Nat.le_of_ble_eq_true rfl) dL_law_512 ⟨by omega, by omega⟩) (fun H locs _ hP => ?_)
  refine lv_istore (lv' := [(7, .int q2.1), (6, .int q1.1), (5, .int i), (4, .ref (P.2.1 37)), (3, .ref (P.2.1 36)), (2, .ref (P.2.1 26)), (1, .ref (P.2.1 0)), (0, .ref b)]) hx hb dL_law_515 hl (by decide) rfl (fun ls hl => ?_)
  refine lv_aload_n hx hb dL_law_517 rfl (lv_at hl 5 rfl) ?_
  refine vu_i hP (vu_V S hF hP (h := 26) (hlt 26 (by decide)) rfl (by decide) rfl (c_X6_thrown l P hA (Nat.le_trans (by decide) hn) q2.2) ok_X6_thrown ml_L_132 ⟨Nat.le_of_ble_eq_true rfl, Nat.le_of_ble_eq_true rfl⟩ rfl hl.1 rfl (Nat.le_of_ble_eq_true rfl) dL_law_518 ⟨by omega, by omega⟩) (fun H locs _ hP => ?_)
  refine lv_iload hx hb dL_law_521 (lv_at hl 1 rfl) ?_
  obtain ⟨ck3, h⟩ := chk h
  refine lv_icmp_eq (tgt := 528) hx hb dL_law_523 (by decide) (fun _ => ?_) (fun c9 => absurd ck3 c9)
  refine lv_iload hx hb dL_law_528 (lv_at hl 1 rfl) ?_
  obtain ⟨ck5, h⟩ := chk h
  obtain rfl := Option.some.inj h
  refine lv_if_ne (tgt := 545) hx hb dL_law_530 (by decide) (fun c4 => ?_) (fun c4 => ?_)
  · refine lv_goto (tgt := 2158) hx hb dL_law_545 (by decide) ?_
    refine W.widen (k := cells + 2) (n := slots + 12) (by omega) (by omega) ?_
    exact kk _ _ _ hP (lv_sub hl [2, 3, 4, 5, 6, 7] rfl)
  · refine lv_aload_n hx hb dL_law_533 rfl (lv_at hl 4 rfl) ?_
    refine lv_iconst (v := 0) hx hb dL_law_534 (by decide) ?_
    refine vt_laldK (n := 1) 0 (by decide) S hF hP (hlt 36 (by decide)) rfl (by decide) dL_law_535 ?_
    refine lv_iload hx hb dL_law_536 (lv_at hl 0 rfl) ?_
    refine lv_i2l hx hb dL_law_538 rfl ?_
    refine W.lcmp hx hb dL_law_539 ?_
    refine lv_if_eq (tgt := 545) hx hb dL_law_540 (by decide) (fun _ => ?_) (fun c9 => absurd (ck5 c4) c9)
    refine lv_goto (tgt := 2158) hx hb dL_law_545 (by decide) ?_
    refine W.widen (k := cells + 2) (n := slots + 12) (by omega) (by omega) ?_
    exact kk _ _ _ hP (lv_sub hl [2, 3, 4, 5, 6, 7] rfl)
set_option maxRecDepth 100000 in
set_option maxHeartbeats 4000000 in
theorem k_5 {p : Program} {l : Launch} {e : Env} {s : State} {m : MethodId} {args : Array Value} {below : List Frame} {meth : Method} {c : Code} {Q : State → Prop} {P : Pl} {b L : Nat} {xs : Nat → Int32} {c0 : Cond} {i : Int32} (hst : l.stackTraces = false) (hA : Adr P) (hn : 38 ≤ P.2.2.2.1) (S : CallFix p m c cL_law 10 s args (c0 :: ALLW) RL) (hF : Fx P s) (hX : va_X b L xs s s.heap) (hbl : b < s.heap.size) (hbA : ¬ Ab P.2.2.2.2.1 b) (h1 : vp_in (i + 1) L) (h2 : vp_in (i + 2) L) (h3 : vp_in (i + 3) L) {w w' : Wo} {H : Heap} {locs : List Loc} {cells slots : Nat} {ls : Array Slot} (h : F_K_5 w (xs (Int32.toNatClampNeg (i + 1))) (xs (Int32.toNatClampNeg (i + 2))) (xs (Int32.toNatClampNeg (i + 3))) = some w') (hP : St P s w H locs) (hl : lv_has ls 10 (lvL P b i)) (hc : cells + 2 ≤ room_1.cells) (hs : slots + 12 ≤ room_1.slots)
    (kk : ∀ (H1 : Heap) (locs1 : List Loc) (ls1 : Array Slot), St P s w' H1 locs1 → lv_has ls1 10 (lvL P b i) → W p l e room_1 s m args below meth c H1 locs1 (cells + 2) (slots + 12) Q (F0 m 2158 ls1 [])) : W p l e room_1 s m args below meth c H locs cells slots Q (F0 m 548 ls []) := by
  have hx := S.1
  have hb := S.2.1
  have hlt : ∀ h, h < 38 → h < P.2.2.2.1 := fun h q => Nat.lt_of_lt_of_le q hn
  unfold F_K_5 at h
  refine lv_aload_n hx hb dL_law_548 rfl (lv_at hl 4 rfl) ?_
  refine lv_aload_n hx hb dL_law_549 rfl (lv_at hl 5 rfl) ?_
  refine lv_iload hx hb dL_law_550 (lv_at hl 0 rfl) ?_
  refine lv_iconst (v := 1) hx hb dL_law_552 (by decide) ?_
  refine lv_iadd hx hb dL_law_553 ?_
  refine va_sld hx hb hX hbl hbA hP.2 h1 dL_law_554 ?_
  refine lv_aload_n hx hb dL_law_555 rfl (lv_at hl 2 rfl) ?_
  obtain ⟨q1, hq1, h⟩ := ob h
  refine vu_SW S hF hP (c_L_bar l P hA hn hst (xs (Int32.toNatClampNeg (i + 1))) w hq1) ok_L_bar ml_L_149 ⟨Nat.le_of_ble_eq_true rfl, Nat.le_of_ble_eq_true rfl⟩ rfl hl.1 rfl (Nat.le_of_ble_eq_true rfl) dL_law_556 ⟨by omega, by omega⟩ (fun H locs hP => ?_)
  refine lv_istore (lv' := [(6, .int q1.1), (5, .int i), (4, .ref (P.2.1 37)), (3, .ref (P.2.1 36)), (2, .ref (P.2.1 26)), (1, .ref (P.2.1 0)), (0, .ref b)]) hx hb dL_law_559 hl (by decide) rfl (fun ls hl => ?_)
  refine lv_aload_n hx hb dL_law_561 rfl (lv_at hl 4 rfl) ?_
  refine lv_aload_n hx hb dL_law_562 rfl (lv_at hl 6 rfl) ?_
  refine lv_iload hx hb dL_law_563 (lv_at hl 1 rfl) ?_
  refine lv_iconst (v := 1) hx hb dL_law_565 (by decide) ?_
  refine lv_iadd hx hb dL_law_566 ?_
  refine va_sld hx hb hX hbl hbA hP.2 h1 dL_law_567 ?_
  obtain ⟨q2, hq2, h⟩ := ob h
  refine vu_i hP (vu_V S hF hP (h := 26) (hlt 26 (by decide)) rfl (by decide) rfl (c_X6_bar l P hA (Nat.le_trans (by decide) hn) q1.2 (xs (Int32.toNatClampNeg (i + 1))) hq2) ok_X6_bar ml_L_151 ⟨Nat.le_of_ble_eq_true rfl, Nat.le_of_ble_eq_true rfl⟩ rfl hl.1 rfl (Nat.le_of_ble_eq_true rfl) dL_law_568 ⟨by omega, by omega⟩) (fun H locs _ hP => ?_)
  refine lv_istore (lv' := [(7, .int q2.1), (6, .int q1.1), (5, .int i), (4, .ref (P.2.1 37)), (3, .ref (P.2.1 36)), (2, .ref (P.2.1 26)), (1, .ref (P.2.1 0)), (0, .ref b)]) hx hb dL_law_571 hl (by decide) rfl (fun ls hl => ?_)
  refine lv_aload_n hx hb dL_law_573 rfl (lv_at hl 5 rfl) ?_
  refine vu_i hP (vu_V S hF hP (h := 26) (hlt 26 (by decide)) rfl (by decide) rfl (c_X6_thrown l P hA (Nat.le_trans (by decide) hn) q2.2) ok_X6_thrown ml_L_132 ⟨Nat.le_of_ble_eq_true rfl, Nat.le_of_ble_eq_true rfl⟩ rfl hl.1 rfl (Nat.le_of_ble_eq_true rfl) dL_law_574 ⟨by omega, by omega⟩) (fun H locs _ hP => ?_)
  refine lv_iload hx hb dL_law_577 (lv_at hl 1 rfl) ?_
  obtain ⟨ck3, h⟩ := chk h
  refine lv_icmp_eq (tgt := 584) hx hb dL_law_579 (by decide) (fun _ => ?_) (fun c9 => absurd ck3 c9)
  refine lv_iload hx hb dL_law_584 (lv_at hl 1 rfl) ?_
  obtain ⟨ck6, h⟩ := chk h
  obtain ⟨ck7, h⟩ := chk h
  obtain rfl := Option.some.inj h
  refine lv_if_ne (tgt := 608) hx hb dL_law_586 (by decide) (fun c4 => ?_) (fun c4 => ?_)
  · refine lv_goto (tgt := 2158) hx hb dL_law_608 (by decide) ?_
    refine W.widen (k := cells + 2) (n := slots + 12) (by omega) (by omega) ?_
    exact kk _ _ _ hP (lv_sub hl [2, 3, 4, 5, 6, 7] rfl)
  · refine lv_aload_n hx hb dL_law_589 rfl (lv_at hl 4 rfl) ?_
    refine lv_iconst (v := 0) hx hb dL_law_590 (by decide) ?_
    refine vt_laldK (n := 1) 0 (by decide) S hF hP (hlt 36 (by decide)) rfl (by decide) dL_law_591 ?_
    refine lv_iload hx hb dL_law_592 (lv_at hl 0 rfl) ?_
    refine lv_if_eq (tgt := 601) hx hb dL_law_594 (by decide) (fun c5 => ?_) (fun c5 => ?_)
    · refine lv_lconst (v := 0) hx hb dL_law_601 (by decide) ?_
      refine W.lcmp hx hb dL_law_602 ?_
      refine lv_if_eq (tgt := 608) hx hb dL_law_603 (by decide) (fun _ => ?_) (fun c9 => absurd (ck6 c4 c5) c9)
      refine lv_goto (tgt := 2158) hx hb dL_law_608 (by decide) ?_
      refine W.widen (k := cells + 2) (n := slots + 12) (by omega) (by omega) ?_
      exact kk _ _ _ hP (lv_sub hl [2, 3, 4, 5, 6, 7] rfl)
    · refine lv_lconst (v := 1) hx hb dL_law_597 (by decide) ?_
      refine lv_goto (tgt := 602) hx hb dL_law_598 (by decide) ?_
      refine W.lcmp hx hb dL_law_602 ?_
      refine lv_if_eq (tgt := 608) hx hb dL_law_603 (by decide) (fun _ => ?_) (fun c9 => absurd (ck7 c4 c5) c9)
      refine lv_goto (tgt := 2158) hx hb dL_law_608 (by decide) ?_
      refine W.widen (k := cells + 2) (n := slots + 12) (by omega) (by omega) ?_
      exact kk _ _ _ hP (lv_sub hl [2, 3, 4, 5, 6, 7] rfl)
set_option maxRecDepth 100000 in
set_option maxHeartbeats 4000000 in
theorem k_6 {p : Program} {l : Launch} {e : Env} {s : State} {m : MethodId} {args : Array Value} {below : List Frame} {meth : Method} {c : Code} {Q : State → Prop} {P : Pl} {b L : Nat} {xs : Nat → Int32} {c0 : Cond} {i : Int32} (hst : l.stackTraces = false) (hA : Adr P) (hn : 38 ≤ P.2.2.2.1) (S : CallFix p m c cL_law 10 s args (c0 :: ALLW) RL) (hF : Fx P s) (hX : va_X b L xs s s.heap) (hbl : b < s.heap.size) (hbA : ¬ Ab P.2.2.2.2.1 b) (h1 : vp_in (i + 1) L) (h2 : vp_in (i + 2) L) (h3 : vp_in (i + 3) L) {w w' : Wo} {H : Heap} {locs : List Loc} {cells slots : Nat} {ls : Array Slot} (h : F_K_6 w (xs (Int32.toNatClampNeg (i + 1))) (xs (Int32.toNatClampNeg (i + 2))) (xs (Int32.toNatClampNeg (i + 3))) = some w') (hP : St P s w H locs) (hl : lv_has ls 10 (lvL P b i)) (hc : cells + 2 ≤ room_1.cells) (hs : slots + 12 ≤ room_1.slots)
    (kk : ∀ (H1 : Heap) (locs1 : List Loc) (ls1 : Array Slot), St P s w' H1 locs1 → lv_has ls1 10 (lvL P b i) → W p l e room_1 s m args below meth c H1 locs1 (cells + 2) (slots + 12) Q (F0 m 2158 ls1 [])) : W p l e room_1 s m args below meth c H locs cells slots Q (F0 m 611 ls []) := by
  have hx := S.1
  have hb := S.2.1
  have hlt : ∀ h, h < 38 → h < P.2.2.2.1 := fun h q => Nat.lt_of_lt_of_le q hn
  unfold F_K_6 at h
  refine lv_aload_n hx hb dL_law_611 rfl (lv_at hl 4 rfl) ?_
  refine lv_aload_n hx hb dL_law_612 rfl (lv_at hl 5 rfl) ?_
  refine lv_iload hx hb dL_law_613 (lv_at hl 0 rfl) ?_
  refine lv_iconst (v := 1) hx hb dL_law_615 (by decide) ?_
  refine lv_iadd hx hb dL_law_616 ?_
  refine va_sld hx hb hX hbl hbA hP.2 h1 dL_law_617 ?_
  refine lv_aload_n hx hb dL_law_618 rfl (lv_at hl 5 rfl) ?_
  refine lv_iload hx hb dL_law_619 (lv_at hl 0 rfl) ?_
  refine lv_iconst (v := 2) hx hb dL_law_621 (by decide) ?_
  refine lv_iadd hx hb dL_law_622 ?_
  refine va_sld hx hb hX hbl hbA hP.2 h2 dL_law_623 ?_
  refine lv_aload_n hx hb dL_law_624 rfl (lv_at hl 2 rfl) ?_
  obtain ⟨q1, hq1, h⟩ := ob h
  refine vu_SW S hF hP (c_L_scramble l P hA hn hst (xs (Int32.toNatClampNeg (i + 1))) (xs (Int32.toNatClampNeg (i + 2))) w hq1) ok_L_scramble ml_L_152 ⟨Nat.le_of_ble_eq_true rfl, Nat.le_of_ble_eq_true rfl⟩ rfl hl.1 rfl (Nat.le_of_ble_eq_true rfl) dL_law_625 ⟨by omega, by omega⟩ (fun H locs hP => ?_)
  refine lv_istore (lv' := [(6, .int q1.1), (5, .int i), (4, .ref (P.2.1 37)), (3, .ref (P.2.1 36)), (2, .ref (P.2.1 26)), (1, .ref (P.2.1 0)), (0, .ref b)]) hx hb dL_law_628 hl (by decide) rfl (fun ls hl => ?_)
  refine lv_aload_n hx hb dL_law_630 rfl (lv_at hl 4 rfl) ?_
  refine lv_aload_n hx hb dL_law_631 rfl (lv_at hl 6 rfl) ?_
  refine lv_iload hx hb dL_law_632 (lv_at hl 1 rfl) ?_
  refine lv_iconst (v := 1) hx hb dL_law_634 (by decide) ?_
  refine lv_iadd hx hb dL_law_635 ?_
  refine va_sld hx hb hX hbl hbA hP.2 h1 dL_law_636 ?_
  refine lv_aload_n hx hb dL_law_637 rfl (lv_at hl 6 rfl) ?_
  refine lv_iload hx hb dL_law_638 (lv_at hl 1 rfl) ?_
  refine lv_iconst (v := 2) hx hb dL_law_640 (by decide) ?_
  refine lv_iadd hx hb dL_law_641 ?_
  refine va_sld hx hb hX hbl hbA hP.2 h2 dL_law_642 ?_
  obtain ⟨q2, hq2, h⟩ := ob h
  refine vu_i hP (vu_V S hF hP (h := 26) (hlt 26 (by decide)) rfl (by decide) rfl (c_X6_scramble l P hA (Nat.le_trans (by decide) hn) q1.2 (xs (Int32.toNatClampNeg (i + 1))) (xs (Int32.toNatClampNeg (i + 2))) hq2) ok_X6_scramble ml_L_154 ⟨Nat.le_of_ble_eq_true rfl, Nat.le_of_ble_eq_true rfl⟩ rfl hl.1 rfl (Nat.le_of_ble_eq_true rfl) dL_law_643 ⟨by omega, by omega⟩) (fun H locs _ hP => ?_)
  refine lv_istore (lv' := [(7, .int q2.1), (6, .int q1.1), (5, .int i), (4, .ref (P.2.1 37)), (3, .ref (P.2.1 36)), (2, .ref (P.2.1 26)), (1, .ref (P.2.1 0)), (0, .ref b)]) hx hb dL_law_646 hl (by decide) rfl (fun ls hl => ?_)
  refine lv_aload_n hx hb dL_law_648 rfl (lv_at hl 5 rfl) ?_
  refine vu_i hP (vu_V S hF hP (h := 26) (hlt 26 (by decide)) rfl (by decide) rfl (c_X6_thrown l P hA (Nat.le_trans (by decide) hn) q2.2) ok_X6_thrown ml_L_132 ⟨Nat.le_of_ble_eq_true rfl, Nat.le_of_ble_eq_true rfl⟩ rfl hl.1 rfl (Nat.le_of_ble_eq_true rfl) dL_law_649 ⟨by omega, by omega⟩) (fun H locs _ hP => ?_)
  refine lv_iload hx hb dL_law_652 (lv_at hl 1 rfl) ?_
  obtain ⟨ck3, h⟩ := chk h
  refine lv_icmp_eq (tgt := 659) hx hb dL_law_654 (by decide) (fun _ => ?_) (fun c9 => absurd ck3 c9)
  refine lv_iload hx hb dL_law_659 (lv_at hl 1 rfl) ?_
  obtain ⟨ck5, h⟩ := chk h
  obtain rfl := Option.some.inj h
  refine lv_if_ne (tgt := 676) hx hb dL_law_661 (by decide) (fun c4 => ?_) (fun c4 => ?_)
  · refine lv_goto (tgt := 2158) hx hb dL_law_676 (by decide) ?_
    refine W.widen (k := cells + 2) (n := slots + 12) (by omega) (by omega) ?_
    exact kk _ _ _ hP (lv_sub hl [2, 3, 4, 5, 6, 7] rfl)
  · refine lv_aload_n hx hb dL_law_664 rfl (lv_at hl 4 rfl) ?_
    refine lv_iconst (v := 0) hx hb dL_law_665 (by decide) ?_
    refine vt_laldK (n := 1) 0 (by decide) S hF hP (hlt 36 (by decide)) rfl (by decide) dL_law_666 ?_
    refine lv_iload hx hb dL_law_667 (lv_at hl 0 rfl) ?_
    refine lv_i2l hx hb dL_law_669 rfl ?_
    refine W.lcmp hx hb dL_law_670 ?_
    refine lv_if_eq (tgt := 676) hx hb dL_law_671 (by decide) (fun _ => ?_) (fun c9 => absurd (ck5 c4) c9)
    refine lv_goto (tgt := 2158) hx hb dL_law_676 (by decide) ?_
    refine W.widen (k := cells + 2) (n := slots + 12) (by omega) (by omega) ?_
    exact kk _ _ _ hP (lv_sub hl [2, 3, 4, 5, 6, 7] rfl)
set_option maxRecDepth 100000 in
set_option maxHeartbeats 4000000 in
theorem k_7 {p : Program} {l : Launch} {e : Env} {s : State} {m : MethodId} {args : Array Value} {below : List Frame} {meth : Method} {c : Code} {Q : State → Prop} {P : Pl} {b L : Nat} {xs : Nat → Int32} {c0 : Cond} {i : Int32} (hst : l.stackTraces = false) (hA : Adr P) (hn : 38 ≤ P.2.2.2.1) (S : CallFix p m c cL_law 10 s args (c0 :: ALLW) RL) (hF : Fx P s) (hX : va_X b L xs s s.heap) (hbl : b < s.heap.size) (hbA : ¬ Ab P.2.2.2.2.1 b) (h1 : vp_in (i + 1) L) (h2 : vp_in (i + 2) L) (h3 : vp_in (i + 3) L) {w w' : Wo} {H : Heap} {locs : List Loc} {cells slots : Nat} {ls : Array Slot} (h : F_K_7 w (xs (Int32.toNatClampNeg (i + 1))) (xs (Int32.toNatClampNeg (i + 2))) (xs (Int32.toNatClampNeg (i + 3))) = some w') (hP : St P s w H locs) (hl : lv_has ls 10 (lvL P b i)) (hc : cells + 2 ≤ room_1.cells) (hs : slots + 12 ≤ room_1.slots)
    (kk : ∀ (H1 : Heap) (locs1 : List Loc) (ls1 : Array Slot), St P s w' H1 locs1 → lv_has ls1 10 (lvL P b i) → W p l e room_1 s m args below meth c H1 locs1 (cells + 2) (slots + 12) Q (F0 m 2158 ls1 [])) : W p l e room_1 s m args below meth c H locs cells slots Q (F0 m 679 ls []) := by
  have hx := S.1
  have hb := S.2.1
  have hlt : ∀ h, h < 38 → h < P.2.2.2.1 := fun h q => Nat.lt_of_lt_of_le q hn
  unfold F_K_7 at h
  refine lv_aload_n hx hb dL_law_679 rfl (lv_at hl 4 rfl) ?_
  refine lv_aload_n hx hb dL_law_680 rfl (lv_at hl 2 rfl) ?_
  obtain ⟨q1, hq1, h⟩ := ob h
  refine vu_SW S hF hP (c_L_step l P hA hn hst w hq1) ok_L_step ml_L_155 ⟨Nat.le_of_ble_eq_true rfl, Nat.le_of_ble_eq_true rfl⟩ rfl hl.1 rfl (Nat.le_of_ble_eq_true rfl) dL_law_681 ⟨by omega, by omega⟩ (fun H locs hP => ?_)
  refine lv_istore (lv' := [(6, .int q1.1), (5, .int i), (4, .ref (P.2.1 37)), (3, .ref (P.2.1 36)), (2, .ref (P.2.1 26)), (1, .ref (P.2.1 0)), (0, .ref b)]) hx hb dL_law_684 hl (by decide) rfl (fun ls hl => ?_)
  refine lv_aload_n hx hb dL_law_686 rfl (lv_at hl 4 rfl) ?_
  obtain ⟨q2, hq2, h⟩ := ob h
  refine vu_i hP (vu_V S hF hP (h := 26) (hlt 26 (by decide)) rfl (by decide) rfl (c_X6_step l P hA (Nat.le_trans (by decide) hn) q1.2 hq2) ok_X6_step ml_L_158 ⟨Nat.le_of_ble_eq_true rfl, Nat.le_of_ble_eq_true rfl⟩ rfl hl.1 rfl (Nat.le_of_ble_eq_true rfl) dL_law_687 ⟨by omega, by omega⟩) (fun H locs _ hP => ?_)
  refine lv_istore (lv' := [(7, .int q2.1), (6, .int q1.1), (5, .int i), (4, .ref (P.2.1 37)), (3, .ref (P.2.1 36)), (2, .ref (P.2.1 26)), (1, .ref (P.2.1 0)), (0, .ref b)]) hx hb dL_law_690 hl (by decide) rfl (fun ls hl => ?_)
  refine lv_aload_n hx hb dL_law_692 rfl (lv_at hl 5 rfl) ?_
  refine vu_i hP (vu_V S hF hP (h := 26) (hlt 26 (by decide)) rfl (by decide) rfl (c_X6_thrown l P hA (Nat.le_trans (by decide) hn) q2.2) ok_X6_thrown ml_L_132 ⟨Nat.le_of_ble_eq_true rfl, Nat.le_of_ble_eq_true rfl⟩ rfl hl.1 rfl (Nat.le_of_ble_eq_true rfl) dL_law_693 ⟨by omega, by omega⟩) (fun H locs _ hP => ?_)
  refine lv_iload hx hb dL_law_696 (lv_at hl 1 rfl) ?_
  obtain ⟨ck3, h⟩ := chk h
  refine lv_icmp_eq (tgt := 703) hx hb dL_law_698 (by decide) (fun _ => ?_) (fun c9 => absurd ck3 c9)
  refine lv_iload hx hb dL_law_703 (lv_at hl 1 rfl) ?_
  obtain ⟨ck5, h⟩ := chk h
  obtain rfl := Option.some.inj h
  refine lv_if_ne (tgt := 720) hx hb dL_law_705 (by decide) (fun c4 => ?_) (fun c4 => ?_)
  · refine lv_goto (tgt := 2158) hx hb dL_law_720 (by decide) ?_
    refine W.widen (k := cells + 2) (n := slots + 12) (by omega) (by omega) ?_
    exact kk _ _ _ hP (lv_sub hl [2, 3, 4, 5, 6, 7] rfl)
  · refine lv_aload_n hx hb dL_law_708 rfl (lv_at hl 4 rfl) ?_
    refine lv_iconst (v := 0) hx hb dL_law_709 (by decide) ?_
    refine vt_laldK (n := 1) 0 (by decide) S hF hP (hlt 36 (by decide)) rfl (by decide) dL_law_710 ?_
    refine lv_iload hx hb dL_law_711 (lv_at hl 0 rfl) ?_
    refine lv_i2l hx hb dL_law_713 rfl ?_
    refine W.lcmp hx hb dL_law_714 ?_
    refine lv_if_eq (tgt := 720) hx hb dL_law_715 (by decide) (fun _ => ?_) (fun c9 => absurd (ck5 c4) c9)
    refine lv_goto (tgt := 2158) hx hb dL_law_720 (by decide) ?_
    refine W.widen (k := cells + 2) (n := slots + 12) (by omega) (by omega) ?_
    exact kk _ _ _ hP (lv_sub hl [2, 3, 4, 5, 6, 7] rfl)
set_option maxRecDepth 100000 in
set_option maxHeartbeats 4000000 in
theorem k_8 {p : Program} {l : Launch} {e : Env} {s : State} {m : MethodId} {args : Array Value} {below : List Frame} {meth : Method} {c : Code} {Q : State → Prop} {P : Pl} {b L : Nat} {xs : Nat → Int32} {c0 : Cond} {i : Int32} (hst : l.stackTraces = false) (hA : Adr P) (hn : 38 ≤ P.2.2.2.1) (S : CallFix p m c cL_law 10 s args (c0 :: ALLW) RL) (hF : Fx P s) (hX : va_X b L xs s s.heap) (hbl : b < s.heap.size) (hbA : ¬ Ab P.2.2.2.2.1 b) (h1 : vp_in (i + 1) L) (h2 : vp_in (i + 2) L) (h3 : vp_in (i + 3) L) {w w' : Wo} {H : Heap} {locs : List Loc} {cells slots : Nat} {ls : Array Slot} (h : F_K_8 w (xs (Int32.toNatClampNeg (i + 1))) (xs (Int32.toNatClampNeg (i + 2))) (xs (Int32.toNatClampNeg (i + 3))) = some w') (hP : St P s w H locs) (hl : lv_has ls 10 (lvL P b i)) (hc : cells + 2 ≤ room_1.cells) (hs : slots + 12 ≤ room_1.slots)
    (kk : ∀ (H1 : Heap) (locs1 : List Loc) (ls1 : Array Slot), St P s w' H1 locs1 → lv_has ls1 10 (lvL P b i) → W p l e room_1 s m args below meth c H1 locs1 (cells + 2) (slots + 12) Q (F0 m 2158 ls1 [])) : W p l e room_1 s m args below meth c H locs cells slots Q (F0 m 723 ls []) := by
  have hx := S.1
  have hb := S.2.1
  have hlt : ∀ h, h < 38 → h < P.2.2.2.1 := fun h q => Nat.lt_of_lt_of_le q hn
  unfold F_K_8 at h
  refine lv_aload_n hx hb dL_law_723 rfl (lv_at hl 4 rfl) ?_
  refine lv_aload_n hx hb dL_law_724 rfl (lv_at hl 5 rfl) ?_
  refine lv_iload hx hb dL_law_725 (lv_at hl 0 rfl) ?_
  refine lv_iconst (v := 1) hx hb dL_law_727 (by decide) ?_
  refine lv_iadd hx hb dL_law_728 ?_
  refine va_sld hx hb hX hbl hbA hP.2 h1 dL_law_729 ?_
  refine lv_aload_n hx hb dL_law_730 rfl (lv_at hl 2 rfl) ?_
  obtain ⟨q1, hq1, h⟩ := ob h
  refine vu_SW S hF hP (c_L_letter l P hA hn hst (xs (Int32.toNatClampNeg (i + 1))) w hq1) ok_L_letter ml_L_159 ⟨Nat.le_of_ble_eq_true rfl, Nat.le_of_ble_eq_true rfl⟩ rfl hl.1 rfl (Nat.le_of_ble_eq_true rfl) dL_law_731 ⟨by omega, by omega⟩ (fun H locs hP => ?_)
  refine lv_istore (lv' := [(6, .int q1.1), (5, .int i), (4, .ref (P.2.1 37)), (3, .ref (P.2.1 36)), (2, .ref (P.2.1 26)), (1, .ref (P.2.1 0)), (0, .ref b)]) hx hb dL_law_734 hl (by decide) rfl (fun ls hl => ?_)
  refine lv_aload_n hx hb dL_law_736 rfl (lv_at hl 4 rfl) ?_
  refine lv_aload_n hx hb dL_law_737 rfl (lv_at hl 6 rfl) ?_
  refine lv_iload hx hb dL_law_738 (lv_at hl 1 rfl) ?_
  refine lv_iconst (v := 1) hx hb dL_law_740 (by decide) ?_
  refine lv_iadd hx hb dL_law_741 ?_
  refine va_sld hx hb hX hbl hbA hP.2 h1 dL_law_742 ?_
  obtain ⟨q2, hq2, h⟩ := ob h
  refine vu_i hP (vu_V S hF hP (h := 26) (hlt 26 (by decide)) rfl (by decide) rfl (c_X6_letter l P hA (Nat.le_trans (by decide) hn) q1.2 (xs (Int32.toNatClampNeg (i + 1))) hq2) ok_X6_letter ml_L_161 ⟨Nat.le_of_ble_eq_true rfl, Nat.le_of_ble_eq_true rfl⟩ rfl hl.1 rfl (Nat.le_of_ble_eq_true rfl) dL_law_743 ⟨by omega, by omega⟩) (fun H locs _ hP => ?_)
  refine lv_istore (lv' := [(7, .int q2.1), (6, .int q1.1), (5, .int i), (4, .ref (P.2.1 37)), (3, .ref (P.2.1 36)), (2, .ref (P.2.1 26)), (1, .ref (P.2.1 0)), (0, .ref b)]) hx hb dL_law_746 hl (by decide) rfl (fun ls hl => ?_)
  refine lv_aload_n hx hb dL_law_748 rfl (lv_at hl 5 rfl) ?_
  refine vu_i hP (vu_V S hF hP (h := 26) (hlt 26 (by decide)) rfl (by decide) rfl (c_X6_thrown l P hA (Nat.le_trans (by decide) hn) q2.2) ok_X6_thrown ml_L_132 ⟨Nat.le_of_ble_eq_true rfl, Nat.le_of_ble_eq_true rfl⟩ rfl hl.1 rfl (Nat.le_of_ble_eq_true rfl) dL_law_749 ⟨by omega, by omega⟩) (fun H locs _ hP => ?_)
  refine lv_iload hx hb dL_law_752 (lv_at hl 1 rfl) ?_
  obtain ⟨ck3, h⟩ := chk h
  refine lv_icmp_eq (tgt := 759) hx hb dL_law_754 (by decide) (fun _ => ?_) (fun c9 => absurd ck3 c9)
  refine lv_iload hx hb dL_law_759 (lv_at hl 1 rfl) ?_
  obtain ⟨ck5, h⟩ := chk h
  obtain rfl := Option.some.inj h
  refine lv_if_ne (tgt := 776) hx hb dL_law_761 (by decide) (fun c4 => ?_) (fun c4 => ?_)
  · refine lv_goto (tgt := 2158) hx hb dL_law_776 (by decide) ?_
    refine W.widen (k := cells + 2) (n := slots + 12) (by omega) (by omega) ?_
    exact kk _ _ _ hP (lv_sub hl [2, 3, 4, 5, 6, 7] rfl)
  · refine lv_aload_n hx hb dL_law_764 rfl (lv_at hl 4 rfl) ?_
    refine lv_iconst (v := 0) hx hb dL_law_765 (by decide) ?_
    refine vt_laldK (n := 1) 0 (by decide) S hF hP (hlt 36 (by decide)) rfl (by decide) dL_law_766 ?_
    refine lv_iload hx hb dL_law_767 (lv_at hl 0 rfl) ?_
    refine lv_i2l hx hb dL_law_769 rfl ?_
    refine W.lcmp hx hb dL_law_770 ?_
    refine lv_if_eq (tgt := 776) hx hb dL_law_771 (by decide) (fun _ => ?_) (fun c9 => absurd (ck5 c4) c9)
    refine lv_goto (tgt := 2158) hx hb dL_law_776 (by decide) ?_
    refine W.widen (k := cells + 2) (n := slots + 12) (by omega) (by omega) ?_
    exact kk _ _ _ hP (lv_sub hl [2, 3, 4, 5, 6, 7] rfl)
set_option maxRecDepth 100000 in
set_option maxHeartbeats 4000000 in
theorem k_9 {p : Program} {l : Launch} {e : Env} {s : State} {m : MethodId} {args : Array Value} {below : List Frame} {meth : Method} {c : Code} {Q : State → Prop} {P : Pl} {b L : Nat} {xs : Nat → Int32} {c0 : Cond} {i : Int32} (hst : l.stackTraces = false) (hA : Adr P) (hn : 38 ≤ P.2.2.2.1) (S : CallFix p m c cL_law 10 s args (c0 :: ALLW) RL) (hF : Fx P s) (hX : va_X b L xs s s.heap) (hbl : b < s.heap.size) (hbA : ¬ Ab P.2.2.2.2.1 b) (h1 : vp_in (i + 1) L) (h2 : vp_in (i + 2) L) (h3 : vp_in (i + 3) L) {w w' : Wo} {H : Heap} {locs : List Loc} {cells slots : Nat} {ls : Array Slot} (h : F_K_9 w (xs (Int32.toNatClampNeg (i + 1))) (xs (Int32.toNatClampNeg (i + 2))) (xs (Int32.toNatClampNeg (i + 3))) = some w') (hP : St P s w H locs) (hl : lv_has ls 10 (lvL P b i)) (hc : cells + 2 ≤ room_1.cells) (hs : slots + 12 ≤ room_1.slots)
    (kk : ∀ (H1 : Heap) (locs1 : List Loc) (ls1 : Array Slot), St P s w' H1 locs1 → lv_has ls1 10 (lvL P b i) → W p l e room_1 s m args below meth c H1 locs1 (cells + 2) (slots + 12) Q (F0 m 2158 ls1 [])) : W p l e room_1 s m args below meth c H locs cells slots Q (F0 m 779 ls []) := by
  have hx := S.1
  have hb := S.2.1
  have hlt : ∀ h, h < 38 → h < P.2.2.2.1 := fun h q => Nat.lt_of_lt_of_le q hn
  unfold F_K_9 at h
  refine lv_aload_n hx hb dL_law_779 rfl (lv_at hl 4 rfl) ?_
  refine lv_aload_n hx hb dL_law_780 rfl (lv_at hl 5 rfl) ?_
  refine lv_iload hx hb dL_law_781 (lv_at hl 0 rfl) ?_
  refine lv_iconst (v := 1) hx hb dL_law_783 (by decide) ?_
  refine lv_iadd hx hb dL_law_784 ?_
  refine va_sld hx hb hX hbl hbA hP.2 h1 dL_law_785 ?_
  refine lv_aload_n hx hb dL_law_786 rfl (lv_at hl 2 rfl) ?_
  obtain ⟨q1, hq1, h⟩ := ob h
  refine vu_SW S hF hP (c_L_sign l P hA hn hst (xs (Int32.toNatClampNeg (i + 1))) w hq1) ok_L_sign ml_L_162 ⟨Nat.le_of_ble_eq_true rfl, Nat.le_of_ble_eq_true rfl⟩ rfl hl.1 rfl (Nat.le_of_ble_eq_true rfl) dL_law_787 ⟨by omega, by omega⟩ (fun H locs hP => ?_)
  refine lv_istore (lv' := [(6, .int q1.1), (5, .int i), (4, .ref (P.2.1 37)), (3, .ref (P.2.1 36)), (2, .ref (P.2.1 26)), (1, .ref (P.2.1 0)), (0, .ref b)]) hx hb dL_law_790 hl (by decide) rfl (fun ls hl => ?_)
  refine lv_aload_n hx hb dL_law_792 rfl (lv_at hl 4 rfl) ?_
  refine lv_aload_n hx hb dL_law_793 rfl (lv_at hl 6 rfl) ?_
  refine lv_iload hx hb dL_law_794 (lv_at hl 1 rfl) ?_
  refine lv_iconst (v := 1) hx hb dL_law_796 (by decide) ?_
  refine lv_iadd hx hb dL_law_797 ?_
  refine va_sld hx hb hX hbl hbA hP.2 h1 dL_law_798 ?_
  obtain ⟨q2, hq2, h⟩ := ob h
  refine vu_i hP (vu_V S hF hP (h := 26) (hlt 26 (by decide)) rfl (by decide) rfl (c_X6_sign l P hA (Nat.le_trans (by decide) hn) q1.2 (xs (Int32.toNatClampNeg (i + 1))) hq2) ok_X6_sign ml_L_164 ⟨Nat.le_of_ble_eq_true rfl, Nat.le_of_ble_eq_true rfl⟩ rfl hl.1 rfl (Nat.le_of_ble_eq_true rfl) dL_law_799 ⟨by omega, by omega⟩) (fun H locs _ hP => ?_)
  refine lv_istore (lv' := [(7, .int q2.1), (6, .int q1.1), (5, .int i), (4, .ref (P.2.1 37)), (3, .ref (P.2.1 36)), (2, .ref (P.2.1 26)), (1, .ref (P.2.1 0)), (0, .ref b)]) hx hb dL_law_802 hl (by decide) rfl (fun ls hl => ?_)
  refine lv_aload_n hx hb dL_law_804 rfl (lv_at hl 5 rfl) ?_
  refine vu_i hP (vu_V S hF hP (h := 26) (hlt 26 (by decide)) rfl (by decide) rfl (c_X6_thrown l P hA (Nat.le_trans (by decide) hn) q2.2) ok_X6_thrown ml_L_132 ⟨Nat.le_of_ble_eq_true rfl, Nat.le_of_ble_eq_true rfl⟩ rfl hl.1 rfl (Nat.le_of_ble_eq_true rfl) dL_law_805 ⟨by omega, by omega⟩) (fun H locs _ hP => ?_)
  refine lv_iload hx hb dL_law_808 (lv_at hl 1 rfl) ?_
  obtain ⟨ck3, h⟩ := chk h
  refine lv_icmp_eq (tgt := 815) hx hb dL_law_810 (by decide) (fun _ => ?_) (fun c9 => absurd ck3 c9)
  refine lv_iload hx hb dL_law_815 (lv_at hl 1 rfl) ?_
  obtain ⟨ck5, h⟩ := chk h
  obtain rfl := Option.some.inj h
  refine lv_if_ne (tgt := 832) hx hb dL_law_817 (by decide) (fun c4 => ?_) (fun c4 => ?_)
  · refine lv_goto (tgt := 2158) hx hb dL_law_832 (by decide) ?_
    refine W.widen (k := cells + 2) (n := slots + 12) (by omega) (by omega) ?_
    exact kk _ _ _ hP (lv_sub hl [2, 3, 4, 5, 6, 7] rfl)
  · refine lv_aload_n hx hb dL_law_820 rfl (lv_at hl 4 rfl) ?_
    refine lv_iconst (v := 0) hx hb dL_law_821 (by decide) ?_
    refine vt_laldK (n := 1) 0 (by decide) S hF hP (hlt 36 (by decide)) rfl (by decide) dL_law_822 ?_
    refine lv_iload hx hb dL_law_823 (lv_at hl 0 rfl) ?_
    refine lv_i2l hx hb dL_law_825 rfl ?_
    refine W.lcmp hx hb dL_law_826 ?_
    refine lv_if_eq (tgt := 832) hx hb dL_law_827 (by decide) (fun _ => ?_) (fun c9 => absurd (ck5 c4) c9)
    refine lv_goto (tgt := 2158) hx hb dL_law_832 (by decide) ?_
    refine W.widen (k := cells + 2) (n := slots + 12) (by omega) (by omega) ?_
    exact kk _ _ _ hP (lv_sub hl [2, 3, 4, 5, 6, 7] rfl)
set_option maxRecDepth 100000 in
set_option maxHeartbeats 4000000 in
theorem k_10 {p : Program} {l : Launch} {e : Env} {s : State} {m : MethodId} {args : Array Value} {below : List Frame} {meth : Method} {c : Code} {Q : State → Prop} {P : Pl} {b L : Nat} {xs : Nat → Int32} {c0 : Cond} {i : Int32} (hst : l.stackTraces = false) (hA : Adr P) (hn : 38 ≤ P.2.2.2.1) (S : CallFix p m c cL_law 10 s args (c0 :: ALLW) RL) (hF : Fx P s) (hX : va_X b L xs s s.heap) (hbl : b < s.heap.size) (hbA : ¬ Ab P.2.2.2.2.1 b) (h1 : vp_in (i + 1) L) (h2 : vp_in (i + 2) L) (h3 : vp_in (i + 3) L) {w w' : Wo} {H : Heap} {locs : List Loc} {cells slots : Nat} {ls : Array Slot} (h : F_K_10 w (xs (Int32.toNatClampNeg (i + 1))) (xs (Int32.toNatClampNeg (i + 2))) (xs (Int32.toNatClampNeg (i + 3))) = some w') (hP : St P s w H locs) (hl : lv_has ls 10 (lvL P b i)) (hc : cells + 2 ≤ room_1.cells) (hs : slots + 12 ≤ room_1.slots)
    (kk : ∀ (H1 : Heap) (locs1 : List Loc) (ls1 : Array Slot), St P s w' H1 locs1 → lv_has ls1 10 (lvL P b i) → W p l e room_1 s m args below meth c H1 locs1 (cells + 2) (slots + 12) Q (F0 m 2158 ls1 [])) : W p l e room_1 s m args below meth c H locs cells slots Q (F0 m 835 ls []) := by
  have hx := S.1
  have hb := S.2.1
  have hlt : ∀ h, h < 38 → h < P.2.2.2.1 := fun h q => Nat.lt_of_lt_of_le q hn
  unfold F_K_10 at h
  refine lv_aload_n hx hb dL_law_835 rfl (lv_at hl 4 rfl) ?_
  refine lv_aload_n hx hb dL_law_836 rfl (lv_at hl 5 rfl) ?_
  refine lv_iload hx hb dL_law_837 (lv_at hl 0 rfl) ?_
  refine lv_iconst (v := 1) hx hb dL_law_839 (by decide) ?_
  refine lv_iadd hx hb dL_law_840 ?_
  refine va_sld hx hb hX hbl hbA hP.2 h1 dL_law_841 ?_
  refine lv_aload_n hx hb dL_law_842 rfl (lv_at hl 2 rfl) ?_
  obtain ⟨q1, hq1, h⟩ := ob h
  refine vu_SW S hF hP (c_L_isBarred l P hA hn hst (xs (Int32.toNatClampNeg (i + 1))) w hq1) ok_L_isBarred ml_L_165 ⟨Nat.le_of_ble_eq_true rfl, Nat.le_of_ble_eq_true rfl⟩ rfl hl.1 rfl (Nat.le_of_ble_eq_true rfl) dL_law_843 ⟨by omega, by omega⟩ (fun H locs hP => ?_)
  refine lv_istore (lv' := [(6, .int q1.1), (5, .int i), (4, .ref (P.2.1 37)), (3, .ref (P.2.1 36)), (2, .ref (P.2.1 26)), (1, .ref (P.2.1 0)), (0, .ref b)]) hx hb dL_law_846 hl (by decide) rfl (fun ls hl => ?_)
  refine lv_aload_n hx hb dL_law_848 rfl (lv_at hl 4 rfl) ?_
  refine lv_aload_n hx hb dL_law_849 rfl (lv_at hl 6 rfl) ?_
  refine lv_iload hx hb dL_law_850 (lv_at hl 1 rfl) ?_
  refine lv_iconst (v := 1) hx hb dL_law_852 (by decide) ?_
  refine lv_iadd hx hb dL_law_853 ?_
  refine va_sld hx hb hX hbl hbA hP.2 h1 dL_law_854 ?_
  obtain ⟨q2, hq2, h⟩ := ob h
  refine vu_i hP (vu_V S hF hP (h := 26) (hlt 26 (by decide)) rfl (by decide) rfl (c_X6_isBarred l P hA (Nat.le_trans (by decide) hn) q1.2 (xs (Int32.toNatClampNeg (i + 1))) hq2) ok_X6_isBarred ml_L_167 ⟨Nat.le_of_ble_eq_true rfl, Nat.le_of_ble_eq_true rfl⟩ rfl hl.1 rfl (Nat.le_of_ble_eq_true rfl) dL_law_855 ⟨by omega, by omega⟩) (fun H locs _ hP => ?_)
  refine lv_istore (lv' := [(7, .int q2.1), (6, .int q1.1), (5, .int i), (4, .ref (P.2.1 37)), (3, .ref (P.2.1 36)), (2, .ref (P.2.1 26)), (1, .ref (P.2.1 0)), (0, .ref b)]) hx hb dL_law_858 hl (by decide) rfl (fun ls hl => ?_)
  refine lv_aload_n hx hb dL_law_860 rfl (lv_at hl 5 rfl) ?_
  refine vu_i hP (vu_V S hF hP (h := 26) (hlt 26 (by decide)) rfl (by decide) rfl (c_X6_thrown l P hA (Nat.le_trans (by decide) hn) q2.2) ok_X6_thrown ml_L_132 ⟨Nat.le_of_ble_eq_true rfl, Nat.le_of_ble_eq_true rfl⟩ rfl hl.1 rfl (Nat.le_of_ble_eq_true rfl) dL_law_861 ⟨by omega, by omega⟩) (fun H locs _ hP => ?_)
  refine lv_iload hx hb dL_law_864 (lv_at hl 1 rfl) ?_
  obtain ⟨ck3, h⟩ := chk h
  refine lv_icmp_eq (tgt := 871) hx hb dL_law_866 (by decide) (fun _ => ?_) (fun c9 => absurd ck3 c9)
  refine lv_iload hx hb dL_law_871 (lv_at hl 1 rfl) ?_
  obtain ⟨ck6, h⟩ := chk h
  obtain ⟨ck7, h⟩ := chk h
  obtain rfl := Option.some.inj h
  refine lv_if_ne (tgt := 895) hx hb dL_law_873 (by decide) (fun c4 => ?_) (fun c4 => ?_)
  · refine lv_goto (tgt := 2158) hx hb dL_law_895 (by decide) ?_
    refine W.widen (k := cells + 2) (n := slots + 12) (by omega) (by omega) ?_
    exact kk _ _ _ hP (lv_sub hl [2, 3, 4, 5, 6, 7] rfl)
  · refine lv_aload_n hx hb dL_law_876 rfl (lv_at hl 4 rfl) ?_
    refine lv_iconst (v := 0) hx hb dL_law_877 (by decide) ?_
    refine vt_laldK (n := 1) 0 (by decide) S hF hP (hlt 36 (by decide)) rfl (by decide) dL_law_878 ?_
    refine lv_iload hx hb dL_law_879 (lv_at hl 0 rfl) ?_
    refine lv_if_eq (tgt := 888) hx hb dL_law_881 (by decide) (fun c5 => ?_) (fun c5 => ?_)
    · refine lv_lconst (v := 0) hx hb dL_law_888 (by decide) ?_
      refine W.lcmp hx hb dL_law_889 ?_
      refine lv_if_eq (tgt := 895) hx hb dL_law_890 (by decide) (fun _ => ?_) (fun c9 => absurd (ck6 c4 c5) c9)
      refine lv_goto (tgt := 2158) hx hb dL_law_895 (by decide) ?_
      refine W.widen (k := cells + 2) (n := slots + 12) (by omega) (by omega) ?_
      exact kk _ _ _ hP (lv_sub hl [2, 3, 4, 5, 6, 7] rfl)
    · refine lv_lconst (v := 1) hx hb dL_law_884 (by decide) ?_
      refine lv_goto (tgt := 889) hx hb dL_law_885 (by decide) ?_
      refine W.lcmp hx hb dL_law_889 ?_
      refine lv_if_eq (tgt := 895) hx hb dL_law_890 (by decide) (fun _ => ?_) (fun c9 => absurd (ck7 c4 c5) c9)
      refine lv_goto (tgt := 2158) hx hb dL_law_895 (by decide) ?_
      refine W.widen (k := cells + 2) (n := slots + 12) (by omega) (by omega) ?_
      exact kk _ _ _ hP (lv_sub hl [2, 3, 4, 5, 6, 7] rfl)
set_option maxRecDepth 100000 in
set_option maxHeartbeats 4000000 in
theorem k_11 {p : Program} {l : Launch} {e : Env} {s : State} {m : MethodId} {args : Array Value} {below : List Frame} {meth : Method} {c : Code} {Q : State → Prop} {P : Pl} {b L : Nat} {xs : Nat → Int32} {c0 : Cond} {i : Int32} (hst : l.stackTraces = false) (hA : Adr P) (hn : 38 ≤ P.2.2.2.1) (S : CallFix p m c cL_law 10 s args (c0 :: ALLW) RL) (hF : Fx P s) (hX : va_X b L xs s s.heap) (hbl : b < s.heap.size) (hbA : ¬ Ab P.2.2.2.2.1 b) (h1 : vp_in (i + 1) L) (h2 : vp_in (i + 2) L) (h3 : vp_in (i + 3) L) {w w' : Wo} {H : Heap} {locs : List Loc} {cells slots : Nat} {ls : Array Slot} (h : F_K_11 w (xs (Int32.toNatClampNeg (i + 1))) (xs (Int32.toNatClampNeg (i + 2))) (xs (Int32.toNatClampNeg (i + 3))) = some w') (hP : St P s w H locs) (hl : lv_has ls 10 (lvL P b i)) (hc : cells + 2 ≤ room_1.cells) (hs : slots + 12 ≤ room_1.slots)
    (kk : ∀ (H1 : Heap) (locs1 : List Loc) (ls1 : Array Slot), St P s w' H1 locs1 → lv_has ls1 10 (lvL P b i) → W p l e room_1 s m args below meth c H1 locs1 (cells + 2) (slots + 12) Q (F0 m 2158 ls1 [])) : W p l e room_1 s m args below meth c H locs cells slots Q (F0 m 898 ls []) := by
  have hx := S.1
  have hb := S.2.1
  have hlt : ∀ h, h < 38 → h < P.2.2.2.1 := fun h q => Nat.lt_of_lt_of_le q hn
  unfold F_K_11 at h
  refine lv_aload_n hx hb dL_law_898 rfl (lv_at hl 4 rfl) ?_
  refine lv_aload_n hx hb dL_law_899 rfl (lv_at hl 5 rfl) ?_
  refine lv_iload hx hb dL_law_900 (lv_at hl 0 rfl) ?_
  refine lv_iconst (v := 1) hx hb dL_law_902 (by decide) ?_
  refine lv_iadd hx hb dL_law_903 ?_
  refine va_sld hx hb hX hbl hbA hP.2 h1 dL_law_904 ?_
  refine lv_aload_n hx hb dL_law_905 rfl (lv_at hl 2 rfl) ?_
  obtain ⟨q1, hq1, h⟩ := ob h
  refine vu_SW S hF hP (c_L_boardOf l P hA hn hst (xs (Int32.toNatClampNeg (i + 1))) w hq1) ok_L_boardOf ml_L_168 ⟨Nat.le_of_ble_eq_true rfl, Nat.le_of_ble_eq_true rfl⟩ rfl hl.1 rfl (Nat.le_of_ble_eq_true rfl) dL_law_906 ⟨by omega, by omega⟩ (fun H locs hP => ?_)
  refine lv_istore (lv' := [(6, .int q1.1), (5, .int i), (4, .ref (P.2.1 37)), (3, .ref (P.2.1 36)), (2, .ref (P.2.1 26)), (1, .ref (P.2.1 0)), (0, .ref b)]) hx hb dL_law_909 hl (by decide) rfl (fun ls hl => ?_)
  refine lv_aload_n hx hb dL_law_911 rfl (lv_at hl 4 rfl) ?_
  refine lv_aload_n hx hb dL_law_912 rfl (lv_at hl 6 rfl) ?_
  refine lv_iload hx hb dL_law_913 (lv_at hl 1 rfl) ?_
  refine lv_iconst (v := 1) hx hb dL_law_915 (by decide) ?_
  refine lv_iadd hx hb dL_law_916 ?_
  refine va_sld hx hb hX hbl hbA hP.2 h1 dL_law_917 ?_
  obtain ⟨q2, hq2, h⟩ := ob h
  refine vu_i hP (vu_V S hF hP (h := 26) (hlt 26 (by decide)) rfl (by decide) rfl (c_X6_boardOf l P hA (Nat.le_trans (by decide) hn) q1.2 (xs (Int32.toNatClampNeg (i + 1))) hq2) ok_X6_boardOf ml_L_170 ⟨Nat.le_of_ble_eq_true rfl, Nat.le_of_ble_eq_true rfl⟩ rfl hl.1 rfl (Nat.le_of_ble_eq_true rfl) dL_law_918 ⟨by omega, by omega⟩) (fun H locs _ hP => ?_)
  refine lv_istore (lv' := [(7, .int q2.1), (6, .int q1.1), (5, .int i), (4, .ref (P.2.1 37)), (3, .ref (P.2.1 36)), (2, .ref (P.2.1 26)), (1, .ref (P.2.1 0)), (0, .ref b)]) hx hb dL_law_921 hl (by decide) rfl (fun ls hl => ?_)
  refine lv_aload_n hx hb dL_law_923 rfl (lv_at hl 5 rfl) ?_
  refine vu_i hP (vu_V S hF hP (h := 26) (hlt 26 (by decide)) rfl (by decide) rfl (c_X6_thrown l P hA (Nat.le_trans (by decide) hn) q2.2) ok_X6_thrown ml_L_132 ⟨Nat.le_of_ble_eq_true rfl, Nat.le_of_ble_eq_true rfl⟩ rfl hl.1 rfl (Nat.le_of_ble_eq_true rfl) dL_law_924 ⟨by omega, by omega⟩) (fun H locs _ hP => ?_)
  refine lv_iload hx hb dL_law_927 (lv_at hl 1 rfl) ?_
  obtain ⟨ck3, h⟩ := chk h
  refine lv_icmp_eq (tgt := 934) hx hb dL_law_929 (by decide) (fun _ => ?_) (fun c9 => absurd ck3 c9)
  refine lv_iload hx hb dL_law_934 (lv_at hl 1 rfl) ?_
  obtain ⟨ck5, h⟩ := chk h
  obtain rfl := Option.some.inj h
  refine lv_if_ne (tgt := 951) hx hb dL_law_936 (by decide) (fun c4 => ?_) (fun c4 => ?_)
  · refine lv_goto (tgt := 2158) hx hb dL_law_951 (by decide) ?_
    refine W.widen (k := cells + 2) (n := slots + 12) (by omega) (by omega) ?_
    exact kk _ _ _ hP (lv_sub hl [2, 3, 4, 5, 6, 7] rfl)
  · refine lv_aload_n hx hb dL_law_939 rfl (lv_at hl 4 rfl) ?_
    refine lv_iconst (v := 0) hx hb dL_law_940 (by decide) ?_
    refine vt_laldK (n := 1) 0 (by decide) S hF hP (hlt 36 (by decide)) rfl (by decide) dL_law_941 ?_
    refine lv_iload hx hb dL_law_942 (lv_at hl 0 rfl) ?_
    refine lv_i2l hx hb dL_law_944 rfl ?_
    refine W.lcmp hx hb dL_law_945 ?_
    refine lv_if_eq (tgt := 951) hx hb dL_law_946 (by decide) (fun _ => ?_) (fun c9 => absurd (ck5 c4) c9)
    refine lv_goto (tgt := 2158) hx hb dL_law_951 (by decide) ?_
    refine W.widen (k := cells + 2) (n := slots + 12) (by omega) (by omega) ?_
    exact kk _ _ _ hP (lv_sub hl [2, 3, 4, 5, 6, 7] rfl)
set_option maxRecDepth 100000 in
set_option maxHeartbeats 4000000 in
theorem k_12 {p : Program} {l : Launch} {e : Env} {s : State} {m : MethodId} {args : Array Value} {below : List Frame} {meth : Method} {c : Code} {Q : State → Prop} {P : Pl} {b L : Nat} {xs : Nat → Int32} {c0 : Cond} {i : Int32} (hst : l.stackTraces = false) (hA : Adr P) (hn : 38 ≤ P.2.2.2.1) (S : CallFix p m c cL_law 10 s args (c0 :: ALLW) RL) (hF : Fx P s) (hX : va_X b L xs s s.heap) (hbl : b < s.heap.size) (hbA : ¬ Ab P.2.2.2.2.1 b) (h1 : vp_in (i + 1) L) (h2 : vp_in (i + 2) L) (h3 : vp_in (i + 3) L) {w w' : Wo} {H : Heap} {locs : List Loc} {cells slots : Nat} {ls : Array Slot} (h : F_K_12 w (xs (Int32.toNatClampNeg (i + 1))) (xs (Int32.toNatClampNeg (i + 2))) (xs (Int32.toNatClampNeg (i + 3))) = some w') (hP : St P s w H locs) (hl : lv_has ls 10 (lvL P b i)) (hc : cells + 2 ≤ room_1.cells) (hs : slots + 12 ≤ room_1.slots)
    (kk : ∀ (H1 : Heap) (locs1 : List Loc) (ls1 : Array Slot), St P s w' H1 locs1 → lv_has ls1 10 (lvL P b i) → W p l e room_1 s m args below meth c H1 locs1 (cells + 2) (slots + 12) Q (F0 m 2158 ls1 [])) : W p l e room_1 s m args below meth c H locs cells slots Q (F0 m 954 ls []) := by
  have hx := S.1
  have hb := S.2.1
  have hlt : ∀ h, h < 38 → h < P.2.2.2.1 := fun h q => Nat.lt_of_lt_of_le q hn
  unfold F_K_12 at h
  by_cases k9 : xs (Int32.toNatClampNeg (i + 1)) = 0
  · rw [if_pos k9] at h
    refine lv_aload_n hx hb dL_law_954 rfl (lv_at hl 4 rfl) ?_
    refine lv_aload_n hx hb dL_law_955 rfl (lv_at hl 5 rfl) ?_
    refine lv_iload hx hb dL_law_956 (lv_at hl 0 rfl) ?_
    refine lv_iconst (v := 1) hx hb dL_law_958 (by decide) ?_
    refine lv_iadd hx hb dL_law_959 ?_
    refine va_sld hx hb hX hbl hbA hP.2 h1 dL_law_960 ?_
    refine lv_if_eq (tgt := 968) hx hb dL_law_961 (by decide) (fun _ => ?_) (fun c9 => absurd k9 c9)
    refine lv_iconst (v := 0) hx hb dL_law_968 (by decide) ?_
    refine lv_aload_n hx hb dL_law_969 rfl (lv_at hl 2 rfl) ?_
    obtain ⟨q1, hq1, h⟩ := ob h
    refine vu_SW S hF hP (c_L_away l P hA hn hst 0 w hq1) ok_L_away ml_L_171 ⟨Nat.le_of_ble_eq_true rfl, Nat.le_of_ble_eq_true rfl⟩ rfl hl.1 rfl (Nat.le_of_ble_eq_true rfl) dL_law_970 ⟨by omega, by omega⟩ (fun H locs hP => ?_)
    refine lv_istore (lv' := [(6, .int q1.1), (5, .int i), (4, .ref (P.2.1 37)), (3, .ref (P.2.1 36)), (2, .ref (P.2.1 26)), (1, .ref (P.2.1 0)), (0, .ref b)]) hx hb dL_law_973 hl (by decide) rfl (fun ls hl => ?_)
    refine lv_aload_n hx hb dL_law_975 rfl (lv_at hl 4 rfl) ?_
    refine lv_aload_n hx hb dL_law_976 rfl (lv_at hl 6 rfl) ?_
    refine lv_iload hx hb dL_law_977 (lv_at hl 1 rfl) ?_
    refine lv_iconst (v := 1) hx hb dL_law_979 (by decide) ?_
    refine lv_iadd hx hb dL_law_980 ?_
    refine va_sld hx hb hX hbl hbA hP.2 h1 dL_law_981 ?_
    refine lv_if_eq (tgt := 989) hx hb dL_law_982 (by decide) (fun _ => ?_) (fun c9 => absurd k9 c9)
    refine lv_iconst (v := 0) hx hb dL_law_989 (by decide) ?_
    obtain ⟨q2, hq2, h⟩ := ob h
    refine vu_i hP (vu_V S hF hP (h := 26) (hlt 26 (by decide)) rfl (by decide) rfl (c_X6_away l P hA (Nat.le_trans (by decide) hn) q1.2 0 hq2) ok_X6_away ml_L_174 ⟨Nat.le_of_ble_eq_true rfl, Nat.le_of_ble_eq_true rfl⟩ rfl hl.1 rfl (Nat.le_of_ble_eq_true rfl) dL_law_990 ⟨by omega, by omega⟩) (fun H locs _ hP => ?_)
    refine lv_istore (lv' := [(7, .int q2.1), (6, .int q1.1), (5, .int i), (4, .ref (P.2.1 37)), (3, .ref (P.2.1 36)), (2, .ref (P.2.1 26)), (1, .ref (P.2.1 0)), (0, .ref b)]) hx hb dL_law_993 hl (by decide) rfl (fun ls hl => ?_)
    refine lv_aload_n hx hb dL_law_995 rfl (lv_at hl 5 rfl) ?_
    refine vu_i hP (vu_V S hF hP (h := 26) (hlt 26 (by decide)) rfl (by decide) rfl (c_X6_thrown l P hA (Nat.le_trans (by decide) hn) q2.2) ok_X6_thrown ml_L_132 ⟨Nat.le_of_ble_eq_true rfl, Nat.le_of_ble_eq_true rfl⟩ rfl hl.1 rfl (Nat.le_of_ble_eq_true rfl) dL_law_996 ⟨by omega, by omega⟩) (fun H locs _ hP => ?_)
    refine lv_iload hx hb dL_law_999 (lv_at hl 1 rfl) ?_
    obtain ⟨ck3, h⟩ := chk h
    refine lv_icmp_eq (tgt := 1006) hx hb dL_law_1001 (by decide) (fun _ => ?_) (fun c9 => absurd ck3 c9)
    refine lv_iload hx hb dL_law_1006 (lv_at hl 1 rfl) ?_
    obtain ⟨ck5, h⟩ := chk h
    obtain rfl := Option.some.inj h
    refine lv_if_ne (tgt := 1023) hx hb dL_law_1008 (by decide) (fun c4 => ?_) (fun c4 => ?_)
    · refine lv_goto (tgt := 2158) hx hb dL_law_1023 (by decide) ?_
      refine W.widen (k := cells + 2) (n := slots + 12) (by omega) (by omega) ?_
      exact kk _ _ _ hP (lv_sub hl [2, 3, 4, 5, 6, 7] rfl)
    · refine lv_aload_n hx hb dL_law_1011 rfl (lv_at hl 4 rfl) ?_
      refine lv_iconst (v := 0) hx hb dL_law_1012 (by decide) ?_
      refine vt_laldK (n := 1) 0 (by decide) S hF hP (hlt 36 (by decide)) rfl (by decide) dL_law_1013 ?_
      refine lv_iload hx hb dL_law_1014 (lv_at hl 0 rfl) ?_
      refine lv_i2l hx hb dL_law_1016 rfl ?_
      refine W.lcmp hx hb dL_law_1017 ?_
      refine lv_if_eq (tgt := 1023) hx hb dL_law_1018 (by decide) (fun _ => ?_) (fun c9 => absurd (ck5 c4) c9)
      refine lv_goto (tgt := 2158) hx hb dL_law_1023 (by decide) ?_
      refine W.widen (k := cells + 2) (n := slots + 12) (by omega) (by omega) ?_
      exact kk _ _ _ hP (lv_sub hl [2, 3, 4, 5, 6, 7] rfl)
  · rw [if_neg k9] at h
    refine lv_aload_n hx hb dL_law_954 rfl (lv_at hl 4 rfl) ?_
    refine lv_aload_n hx hb dL_law_955 rfl (lv_at hl 5 rfl) ?_
    refine lv_iload hx hb dL_law_956 (lv_at hl 0 rfl) ?_
    refine lv_iconst (v := 1) hx hb dL_law_958 (by decide) ?_
    refine lv_iadd hx hb dL_law_959 ?_
    refine va_sld hx hb hX hbl hbA hP.2 h1 dL_law_960 ?_
    refine lv_if_eq (tgt := 968) hx hb dL_law_961 (by decide) (fun c9 => absurd c9 k9) (fun _ => ?_)
    refine lv_iconst (v := 1) hx hb dL_law_964 (by decide) ?_
    refine lv_goto (tgt := 969) hx hb dL_law_965 (by decide) ?_
    refine lv_aload_n hx hb dL_law_969 rfl (lv_at hl 2 rfl) ?_
    obtain ⟨q1, hq1, h⟩ := ob h
    refine vu_SW S hF hP (c_L_away l P hA hn hst 1 w hq1) ok_L_away ml_L_171 ⟨Nat.le_of_ble_eq_true rfl, Nat.le_of_ble_eq_true rfl⟩ rfl hl.1 rfl (Nat.le_of_ble_eq_true rfl) dL_law_970 ⟨by omega, by omega⟩ (fun H locs hP => ?_)
    refine lv_istore (lv' := [(6, .int q1.1), (5, .int i), (4, .ref (P.2.1 37)), (3, .ref (P.2.1 36)), (2, .ref (P.2.1 26)), (1, .ref (P.2.1 0)), (0, .ref b)]) hx hb dL_law_973 hl (by decide) rfl (fun ls hl => ?_)
    refine lv_aload_n hx hb dL_law_975 rfl (lv_at hl 4 rfl) ?_
    refine lv_aload_n hx hb dL_law_976 rfl (lv_at hl 6 rfl) ?_
    refine lv_iload hx hb dL_law_977 (lv_at hl 1 rfl) ?_
    refine lv_iconst (v := 1) hx hb dL_law_979 (by decide) ?_
    refine lv_iadd hx hb dL_law_980 ?_
    refine va_sld hx hb hX hbl hbA hP.2 h1 dL_law_981 ?_
    refine lv_if_eq (tgt := 989) hx hb dL_law_982 (by decide) (fun c9 => absurd c9 k9) (fun _ => ?_)
    refine lv_iconst (v := 1) hx hb dL_law_985 (by decide) ?_
    refine lv_goto (tgt := 990) hx hb dL_law_986 (by decide) ?_
    obtain ⟨q2, hq2, h⟩ := ob h
    refine vu_i hP (vu_V S hF hP (h := 26) (hlt 26 (by decide)) rfl (by decide) rfl (c_X6_away l P hA (Nat.le_trans (by decide) hn) q1.2 1 hq2) ok_X6_away ml_L_174 ⟨Nat.le_of_ble_eq_true rfl, Nat.le_of_ble_eq_true rfl⟩ rfl hl.1 rfl (Nat.le_of_ble_eq_true rfl) dL_law_990 ⟨by omega, by omega⟩) (fun H locs _ hP => ?_)
    refine lv_istore (lv' := [(7, .int q2.1), (6, .int q1.1), (5, .int i), (4, .ref (P.2.1 37)), (3, .ref (P.2.1 36)), (2, .ref (P.2.1 26)), (1, .ref (P.2.1 0)), (0, .ref b)]) hx hb dL_law_993 hl (by decide) rfl (fun ls hl => ?_)
    refine lv_aload_n hx hb dL_law_995 rfl (lv_at hl 5 rfl) ?_
    refine vu_i hP (vu_V S hF hP (h := 26) (hlt 26 (by decide)) rfl (by decide) rfl (c_X6_thrown l P hA (Nat.le_trans (by decide) hn) q2.2) ok_X6_thrown ml_L_132 ⟨Nat.le_of_ble_eq_true rfl, Nat.le_of_ble_eq_true rfl⟩ rfl hl.1 rfl (Nat.le_of_ble_eq_true rfl) dL_law_996 ⟨by omega, by omega⟩) (fun H locs _ hP => ?_)
    refine lv_iload hx hb dL_law_999 (lv_at hl 1 rfl) ?_
    obtain ⟨ck3, h⟩ := chk h
    refine lv_icmp_eq (tgt := 1006) hx hb dL_law_1001 (by decide) (fun _ => ?_) (fun c9 => absurd ck3 c9)
    refine lv_iload hx hb dL_law_1006 (lv_at hl 1 rfl) ?_
    obtain ⟨ck5, h⟩ := chk h
    obtain rfl := Option.some.inj h
    refine lv_if_ne (tgt := 1023) hx hb dL_law_1008 (by decide) (fun c4 => ?_) (fun c4 => ?_)
    · refine lv_goto (tgt := 2158) hx hb dL_law_1023 (by decide) ?_
      refine W.widen (k := cells + 2) (n := slots + 12) (by omega) (by omega) ?_
      exact kk _ _ _ hP (lv_sub hl [2, 3, 4, 5, 6, 7] rfl)
    · refine lv_aload_n hx hb dL_law_1011 rfl (lv_at hl 4 rfl) ?_
      refine lv_iconst (v := 0) hx hb dL_law_1012 (by decide) ?_
      refine vt_laldK (n := 1) 0 (by decide) S hF hP (hlt 36 (by decide)) rfl (by decide) dL_law_1013 ?_
      refine lv_iload hx hb dL_law_1014 (lv_at hl 0 rfl) ?_
      refine lv_i2l hx hb dL_law_1016 rfl ?_
      refine W.lcmp hx hb dL_law_1017 ?_
      refine lv_if_eq (tgt := 1023) hx hb dL_law_1018 (by decide) (fun _ => ?_) (fun c9 => absurd (ck5 c4) c9)
      refine lv_goto (tgt := 2158) hx hb dL_law_1023 (by decide) ?_
      refine W.widen (k := cells + 2) (n := slots + 12) (by omega) (by omega) ?_
      exact kk _ _ _ hP (lv_sub hl [2, 3, 4, 5, 6, 7] rfl)
set_option maxRecDepth 100000 in
set_option maxHeartbeats 4000000 in
theorem k_13 {p : Program} {l : Launch} {e : Env} {s : State} {m : MethodId} {args : Array Value} {below : List Frame} {meth : Method} {c : Code} {Q : State → Prop} {P : Pl} {b L : Nat} {xs : Nat → Int32} {c0 : Cond} {i : Int32} (hst : l.stackTraces = false) (hA : Adr P) (hn : 38 ≤ P.2.2.2.1) (S : CallFix p m c cL_law 10 s args (c0 :: ALLW) RL) (hF : Fx P s) (hX : va_X b L xs s s.heap) (hbl : b < s.heap.size) (hbA : ¬ Ab P.2.2.2.2.1 b) (h1 : vp_in (i + 1) L) (h2 : vp_in (i + 2) L) (h3 : vp_in (i + 3) L) {w w' : Wo} {H : Heap} {locs : List Loc} {cells slots : Nat} {ls : Array Slot} (h : F_K_13 w (xs (Int32.toNatClampNeg (i + 1))) (xs (Int32.toNatClampNeg (i + 2))) (xs (Int32.toNatClampNeg (i + 3))) = some w') (hP : St P s w H locs) (hl : lv_has ls 10 (lvL P b i)) (hc : cells + 2 ≤ room_1.cells) (hs : slots + 12 ≤ room_1.slots)
    (kk : ∀ (H1 : Heap) (locs1 : List Loc) (ls1 : Array Slot), St P s w' H1 locs1 → lv_has ls1 10 (lvL P b i) → W p l e room_1 s m args below meth c H1 locs1 (cells + 2) (slots + 12) Q (F0 m 2158 ls1 [])) : W p l e room_1 s m args below meth c H locs cells slots Q (F0 m 1026 ls []) := by
  have hx := S.1
  have hb := S.2.1
  have hlt : ∀ h, h < 38 → h < P.2.2.2.1 := fun h q => Nat.lt_of_lt_of_le q hn
  unfold F_K_13 at h
  refine lv_aload_n hx hb dL_law_1026 rfl (lv_at hl 4 rfl) ?_
  refine lv_aload_n hx hb dL_law_1027 rfl (lv_at hl 2 rfl) ?_
  obtain ⟨q1, hq1, h⟩ := ob h
  refine vu_SW S hF hP (c_L_firstTurn l P hA hn hst w hq1) ok_L_firstTurn ml_L_175 ⟨Nat.le_of_ble_eq_true rfl, Nat.le_of_ble_eq_true rfl⟩ rfl hl.1 rfl (Nat.le_of_ble_eq_true rfl) dL_law_1028 ⟨by omega, by omega⟩ (fun H locs hP => ?_)
  refine lv_istore (lv' := [(6, .int q1.1), (5, .int i), (4, .ref (P.2.1 37)), (3, .ref (P.2.1 36)), (2, .ref (P.2.1 26)), (1, .ref (P.2.1 0)), (0, .ref b)]) hx hb dL_law_1031 hl (by decide) rfl (fun ls hl => ?_)
  refine lv_aload_n hx hb dL_law_1033 rfl (lv_at hl 4 rfl) ?_
  obtain ⟨q2, hq2, h⟩ := ob h
  refine vu_i hP (vu_V S hF hP (h := 26) (hlt 26 (by decide)) rfl (by decide) rfl (c_X6_firstTurn l P hA (Nat.le_trans (by decide) hn) q1.2 hq2) ok_X6_firstTurn ml_L_177 ⟨Nat.le_of_ble_eq_true rfl, Nat.le_of_ble_eq_true rfl⟩ rfl hl.1 rfl (Nat.le_of_ble_eq_true rfl) dL_law_1034 ⟨by omega, by omega⟩) (fun H locs _ hP => ?_)
  refine lv_istore (lv' := [(7, .int q2.1), (6, .int q1.1), (5, .int i), (4, .ref (P.2.1 37)), (3, .ref (P.2.1 36)), (2, .ref (P.2.1 26)), (1, .ref (P.2.1 0)), (0, .ref b)]) hx hb dL_law_1037 hl (by decide) rfl (fun ls hl => ?_)
  refine lv_aload_n hx hb dL_law_1039 rfl (lv_at hl 5 rfl) ?_
  refine vu_i hP (vu_V S hF hP (h := 26) (hlt 26 (by decide)) rfl (by decide) rfl (c_X6_thrown l P hA (Nat.le_trans (by decide) hn) q2.2) ok_X6_thrown ml_L_132 ⟨Nat.le_of_ble_eq_true rfl, Nat.le_of_ble_eq_true rfl⟩ rfl hl.1 rfl (Nat.le_of_ble_eq_true rfl) dL_law_1040 ⟨by omega, by omega⟩) (fun H locs _ hP => ?_)
  refine lv_iload hx hb dL_law_1043 (lv_at hl 1 rfl) ?_
  obtain ⟨ck3, h⟩ := chk h
  refine lv_icmp_eq (tgt := 1050) hx hb dL_law_1045 (by decide) (fun _ => ?_) (fun c9 => absurd ck3 c9)
  refine lv_iload hx hb dL_law_1050 (lv_at hl 1 rfl) ?_
  obtain ⟨ck5, h⟩ := chk h
  obtain rfl := Option.some.inj h
  refine lv_if_ne (tgt := 1067) hx hb dL_law_1052 (by decide) (fun c4 => ?_) (fun c4 => ?_)
  · refine lv_goto (tgt := 2158) hx hb dL_law_1067 (by decide) ?_
    refine W.widen (k := cells + 2) (n := slots + 12) (by omega) (by omega) ?_
    exact kk _ _ _ hP (lv_sub hl [2, 3, 4, 5, 6, 7] rfl)
  · refine lv_aload_n hx hb dL_law_1055 rfl (lv_at hl 4 rfl) ?_
    refine lv_iconst (v := 0) hx hb dL_law_1056 (by decide) ?_
    refine vt_laldK (n := 1) 0 (by decide) S hF hP (hlt 36 (by decide)) rfl (by decide) dL_law_1057 ?_
    refine lv_iload hx hb dL_law_1058 (lv_at hl 0 rfl) ?_
    refine lv_i2l hx hb dL_law_1060 rfl ?_
    refine W.lcmp hx hb dL_law_1061 ?_
    refine lv_if_eq (tgt := 1067) hx hb dL_law_1062 (by decide) (fun _ => ?_) (fun c9 => absurd (ck5 c4) c9)
    refine lv_goto (tgt := 2158) hx hb dL_law_1067 (by decide) ?_
    refine W.widen (k := cells + 2) (n := slots + 12) (by omega) (by omega) ?_
    exact kk _ _ _ hP (lv_sub hl [2, 3, 4, 5, 6, 7] rfl)
set_option maxRecDepth 100000 in
set_option maxHeartbeats 4000000 in
theorem k_14 {p : Program} {l : Launch} {e : Env} {s : State} {m : MethodId} {args : Array Value} {below : List Frame} {meth : Method} {c : Code} {Q : State → Prop} {P : Pl} {b L : Nat} {xs : Nat → Int32} {c0 : Cond} {i : Int32} (hst : l.stackTraces = false) (hA : Adr P) (hn : 38 ≤ P.2.2.2.1) (S : CallFix p m c cL_law 10 s args (c0 :: ALLW) RL) (hF : Fx P s) (hX : va_X b L xs s s.heap) (hbl : b < s.heap.size) (hbA : ¬ Ab P.2.2.2.2.1 b) (h1 : vp_in (i + 1) L) (h2 : vp_in (i + 2) L) (h3 : vp_in (i + 3) L) {w w' : Wo} {H : Heap} {locs : List Loc} {cells slots : Nat} {ls : Array Slot} (h : F_K_14 w (xs (Int32.toNatClampNeg (i + 1))) (xs (Int32.toNatClampNeg (i + 2))) (xs (Int32.toNatClampNeg (i + 3))) = some w') (hP : St P s w H locs) (hl : lv_has ls 10 (lvL P b i)) (hc : cells + 2 ≤ room_1.cells) (hs : slots + 12 ≤ room_1.slots)
    (kk : ∀ (H1 : Heap) (locs1 : List Loc) (ls1 : Array Slot), St P s w' H1 locs1 → lv_has ls1 10 (lvL P b i) → W p l e room_1 s m args below meth c H1 locs1 (cells + 2) (slots + 12) Q (F0 m 2158 ls1 [])) : W p l e room_1 s m args below meth c H locs cells slots Q (F0 m 1070 ls []) := by
  have hx := S.1
  have hb := S.2.1
  have hlt : ∀ h, h < 38 → h < P.2.2.2.1 := fun h q => Nat.lt_of_lt_of_le q hn
  unfold F_K_14 at h
  refine lv_aload_n hx hb dL_law_1070 rfl (lv_at hl 4 rfl) ?_
  obtain ⟨q1, hq1, h⟩ := ob h
  refine vu_i hP (vu_V S hF hP (h := 0) (hlt 0 (by decide)) rfl (by decide) rfl (c_X5_isOut l P hA (Nat.le_trans (by decide) hn) w hq1) ok_X5_isOut ml_L_178 ⟨Nat.le_of_ble_eq_true rfl, Nat.le_of_ble_eq_true rfl⟩ rfl hl.1 rfl (Nat.le_of_ble_eq_true rfl) dL_law_1071 ⟨by omega, by omega⟩) (fun H locs _ hP => ?_)
  refine lv_aload_n hx hb dL_law_1074 rfl (lv_at hl 3 rfl) ?_
  obtain ⟨q2, hq2, h⟩ := ob h
  refine vu_i hP (vu_V S hF hP (h := 26) (hlt 26 (by decide)) rfl (by decide) rfl (c_X6_isOut l P hA (Nat.le_trans (by decide) hn) w hq2) ok_X6_isOut ml_L_182 ⟨Nat.le_of_ble_eq_true rfl, Nat.le_of_ble_eq_true rfl⟩ rfl hl.1 rfl (Nat.le_of_ble_eq_true rfl) dL_law_1075 ⟨by omega, by omega⟩) (fun H locs _ hP => ?_)
  obtain ⟨ck3, h⟩ := chk h
  refine lv_icmp_eq (tgt := 2158) hx hb dL_law_1078 (by decide) (fun _ => ?_) (fun c9 => absurd ck3 c9)
  refine W.widen (k := cells + 2) (n := slots + 12) (by omega) (by omega) ?_
  obtain rfl := Option.some.inj h
  exact kk _ _ _ hP (lv_sub hl [0, 1, 2, 3, 4, 5] rfl)
set_option maxRecDepth 100000 in
set_option maxHeartbeats 4000000 in
theorem k_15 {p : Program} {l : Launch} {e : Env} {s : State} {m : MethodId} {args : Array Value} {below : List Frame} {meth : Method} {c : Code} {Q : State → Prop} {P : Pl} {b L : Nat} {xs : Nat → Int32} {c0 : Cond} {i : Int32} (hst : l.stackTraces = false) (hA : Adr P) (hn : 38 ≤ P.2.2.2.1) (S : CallFix p m c cL_law 10 s args (c0 :: ALLW) RL) (hF : Fx P s) (hX : va_X b L xs s s.heap) (hbl : b < s.heap.size) (hbA : ¬ Ab P.2.2.2.2.1 b) (h1 : vp_in (i + 1) L) (h2 : vp_in (i + 2) L) (h3 : vp_in (i + 3) L) {w w' : Wo} {H : Heap} {locs : List Loc} {cells slots : Nat} {ls : Array Slot} (h : F_K_15 w (xs (Int32.toNatClampNeg (i + 1))) (xs (Int32.toNatClampNeg (i + 2))) (xs (Int32.toNatClampNeg (i + 3))) = some w') (hP : St P s w H locs) (hl : lv_has ls 10 (lvL P b i)) (hc : cells + 2 ≤ room_1.cells) (hs : slots + 12 ≤ room_1.slots)
    (kk : ∀ (H1 : Heap) (locs1 : List Loc) (ls1 : Array Slot), St P s w' H1 locs1 → lv_has ls1 10 (lvL P b i) → W p l e room_1 s m args below meth c H1 locs1 (cells + 2) (slots + 12) Q (F0 m 2158 ls1 [])) : W p l e room_1 s m args below meth c H locs cells slots Q (F0 m 1083 ls []) := by
  have hx := S.1
  have hb := S.2.1
  have hlt : ∀ h, h < 38 → h < P.2.2.2.1 := fun h q => Nat.lt_of_lt_of_le q hn
  unfold F_K_15 at h
  by_cases k9 : xs (Int32.toNatClampNeg (i + 1)) = 0
  · rw [if_pos k9] at h
    refine lv_aload_n hx hb dL_law_1083 rfl (lv_at hl 4 rfl) ?_
    refine lv_aload_n hx hb dL_law_1084 rfl (lv_at hl 5 rfl) ?_
    refine lv_iload hx hb dL_law_1085 (lv_at hl 0 rfl) ?_
    refine lv_iconst (v := 1) hx hb dL_law_1087 (by decide) ?_
    refine lv_iadd hx hb dL_law_1088 ?_
    refine va_sld hx hb hX hbl hbA hP.2 h1 dL_law_1089 ?_
    refine lv_if_eq (tgt := 1097) hx hb dL_law_1090 (by decide) (fun _ => ?_) (fun c9 => absurd k9 c9)
    refine lv_iconst (v := 0) hx hb dL_law_1097 (by decide) ?_
    refine lv_aload_n hx hb dL_law_1098 rfl (lv_at hl 2 rfl) ?_
    obtain ⟨q1, hq1, h⟩ := ob h
    refine vu_SW S hF hP (c_L_isOdd l P hA hn hst 0 w hq1) ok_L_isOdd ml_L_183 ⟨Nat.le_of_ble_eq_true rfl, Nat.le_of_ble_eq_true rfl⟩ rfl hl.1 rfl (Nat.le_of_ble_eq_true rfl) dL_law_1099 ⟨by omega, by omega⟩ (fun H locs hP => ?_)
    refine lv_istore (lv' := [(6, .int q1.1), (5, .int i), (4, .ref (P.2.1 37)), (3, .ref (P.2.1 36)), (2, .ref (P.2.1 26)), (1, .ref (P.2.1 0)), (0, .ref b)]) hx hb dL_law_1102 hl (by decide) rfl (fun ls hl => ?_)
    refine lv_aload_n hx hb dL_law_1104 rfl (lv_at hl 4 rfl) ?_
    refine lv_aload_n hx hb dL_law_1105 rfl (lv_at hl 6 rfl) ?_
    refine lv_iload hx hb dL_law_1106 (lv_at hl 1 rfl) ?_
    refine lv_iconst (v := 1) hx hb dL_law_1108 (by decide) ?_
    refine lv_iadd hx hb dL_law_1109 ?_
    refine va_sld hx hb hX hbl hbA hP.2 h1 dL_law_1110 ?_
    refine lv_if_eq (tgt := 1118) hx hb dL_law_1111 (by decide) (fun _ => ?_) (fun c9 => absurd k9 c9)
    refine lv_iconst (v := 0) hx hb dL_law_1118 (by decide) ?_
    obtain ⟨q2, hq2, h⟩ := ob h
    refine vu_i hP (vu_V S hF hP (h := 26) (hlt 26 (by decide)) rfl (by decide) rfl (c_X6_isOdd l P hA (Nat.le_trans (by decide) hn) q1.2 0 hq2) ok_X6_isOdd ml_L_185 ⟨Nat.le_of_ble_eq_true rfl, Nat.le_of_ble_eq_true rfl⟩ rfl hl.1 rfl (Nat.le_of_ble_eq_true rfl) dL_law_1119 ⟨by omega, by omega⟩) (fun H locs _ hP => ?_)
    refine lv_istore (lv' := [(7, .int q2.1), (6, .int q1.1), (5, .int i), (4, .ref (P.2.1 37)), (3, .ref (P.2.1 36)), (2, .ref (P.2.1 26)), (1, .ref (P.2.1 0)), (0, .ref b)]) hx hb dL_law_1122 hl (by decide) rfl (fun ls hl => ?_)
    refine lv_aload_n hx hb dL_law_1124 rfl (lv_at hl 5 rfl) ?_
    refine vu_i hP (vu_V S hF hP (h := 26) (hlt 26 (by decide)) rfl (by decide) rfl (c_X6_thrown l P hA (Nat.le_trans (by decide) hn) q2.2) ok_X6_thrown ml_L_132 ⟨Nat.le_of_ble_eq_true rfl, Nat.le_of_ble_eq_true rfl⟩ rfl hl.1 rfl (Nat.le_of_ble_eq_true rfl) dL_law_1125 ⟨by omega, by omega⟩) (fun H locs _ hP => ?_)
    refine lv_iload hx hb dL_law_1128 (lv_at hl 1 rfl) ?_
    obtain ⟨ck3, h⟩ := chk h
    refine lv_icmp_eq (tgt := 1135) hx hb dL_law_1130 (by decide) (fun _ => ?_) (fun c9 => absurd ck3 c9)
    refine lv_iload hx hb dL_law_1135 (lv_at hl 1 rfl) ?_
    obtain ⟨ck6, h⟩ := chk h
    obtain ⟨ck7, h⟩ := chk h
    obtain rfl := Option.some.inj h
    refine lv_if_ne (tgt := 1159) hx hb dL_law_1137 (by decide) (fun c4 => ?_) (fun c4 => ?_)
    · refine lv_goto (tgt := 2158) hx hb dL_law_1159 (by decide) ?_
      refine W.widen (k := cells + 2) (n := slots + 12) (by omega) (by omega) ?_
      exact kk _ _ _ hP (lv_sub hl [2, 3, 4, 5, 6, 7] rfl)
    · refine lv_aload_n hx hb dL_law_1140 rfl (lv_at hl 4 rfl) ?_
      refine lv_iconst (v := 0) hx hb dL_law_1141 (by decide) ?_
      refine vt_laldK (n := 1) 0 (by decide) S hF hP (hlt 36 (by decide)) rfl (by decide) dL_law_1142 ?_
      refine lv_iload hx hb dL_law_1143 (lv_at hl 0 rfl) ?_
      refine lv_if_eq (tgt := 1152) hx hb dL_law_1145 (by decide) (fun c5 => ?_) (fun c5 => ?_)
      · refine lv_lconst (v := 0) hx hb dL_law_1152 (by decide) ?_
        refine W.lcmp hx hb dL_law_1153 ?_
        refine lv_if_eq (tgt := 1159) hx hb dL_law_1154 (by decide) (fun _ => ?_) (fun c9 => absurd (ck6 c4 c5) c9)
        refine lv_goto (tgt := 2158) hx hb dL_law_1159 (by decide) ?_
        refine W.widen (k := cells + 2) (n := slots + 12) (by omega) (by omega) ?_
        exact kk _ _ _ hP (lv_sub hl [2, 3, 4, 5, 6, 7] rfl)
      · refine lv_lconst (v := 1) hx hb dL_law_1148 (by decide) ?_
        refine lv_goto (tgt := 1153) hx hb dL_law_1149 (by decide) ?_
        refine W.lcmp hx hb dL_law_1153 ?_
        refine lv_if_eq (tgt := 1159) hx hb dL_law_1154 (by decide) (fun _ => ?_) (fun c9 => absurd (ck7 c4 c5) c9)
        refine lv_goto (tgt := 2158) hx hb dL_law_1159 (by decide) ?_
        refine W.widen (k := cells + 2) (n := slots + 12) (by omega) (by omega) ?_
        exact kk _ _ _ hP (lv_sub hl [2, 3, 4, 5, 6, 7] rfl)
  · rw [if_neg k9] at h
    refine lv_aload_n hx hb dL_law_1083 rfl (lv_at hl 4 rfl) ?_
    refine lv_aload_n hx hb dL_law_1084 rfl (lv_at hl 5 rfl) ?_
    refine lv_iload hx hb dL_law_1085 (lv_at hl 0 rfl) ?_
    refine lv_iconst (v := 1) hx hb dL_law_1087 (by decide) ?_
    refine lv_iadd hx hb dL_law_1088 ?_
    refine va_sld hx hb hX hbl hbA hP.2 h1 dL_law_1089 ?_
    refine lv_if_eq (tgt := 1097) hx hb dL_law_1090 (by decide) (fun c9 => absurd c9 k9) (fun _ => ?_)
    refine lv_iconst (v := 1) hx hb dL_law_1093 (by decide) ?_
    refine lv_goto (tgt := 1098) hx hb dL_law_1094 (by decide) ?_
    refine lv_aload_n hx hb dL_law_1098 rfl (lv_at hl 2 rfl) ?_
    obtain ⟨q1, hq1, h⟩ := ob h
    refine vu_SW S hF hP (c_L_isOdd l P hA hn hst 1 w hq1) ok_L_isOdd ml_L_183 ⟨Nat.le_of_ble_eq_true rfl, Nat.le_of_ble_eq_true rfl⟩ rfl hl.1 rfl (Nat.le_of_ble_eq_true rfl) dL_law_1099 ⟨by omega, by omega⟩ (fun H locs hP => ?_)
    refine lv_istore (lv' := [(6, .int q1.1), (5, .int i), (4, .ref (P.2.1 37)), (3, .ref (P.2.1 36)), (2, .ref (P.2.1 26)), (1, .ref (P.2.1 0)), (0, .ref b)]) hx hb dL_law_1102 hl (by decide) rfl (fun ls hl => ?_)
    refine lv_aload_n hx hb dL_law_1104 rfl (lv_at hl 4 rfl) ?_
    refine lv_aload_n hx hb dL_law_1105 rfl (lv_at hl 6 rfl) ?_
    refine lv_iload hx hb dL_law_1106 (lv_at hl 1 rfl) ?_
    refine lv_iconst (v := 1) hx hb dL_law_1108 (by decide) ?_
    refine lv_iadd hx hb dL_law_1109 ?_
    refine va_sld hx hb hX hbl hbA hP.2 h1 dL_law_1110 ?_
    refine lv_if_eq (tgt := 1118) hx hb dL_law_1111 (by decide) (fun c9 => absurd c9 k9) (fun _ => ?_)
    refine lv_iconst (v := 1) hx hb dL_law_1114 (by decide) ?_
    refine lv_goto (tgt := 1119) hx hb dL_law_1115 (by decide) ?_
    obtain ⟨q2, hq2, h⟩ := ob h
    refine vu_i hP (vu_V S hF hP (h := 26) (hlt 26 (by decide)) rfl (by decide) rfl (c_X6_isOdd l P hA (Nat.le_trans (by decide) hn) q1.2 1 hq2) ok_X6_isOdd ml_L_185 ⟨Nat.le_of_ble_eq_true rfl, Nat.le_of_ble_eq_true rfl⟩ rfl hl.1 rfl (Nat.le_of_ble_eq_true rfl) dL_law_1119 ⟨by omega, by omega⟩) (fun H locs _ hP => ?_)
    refine lv_istore (lv' := [(7, .int q2.1), (6, .int q1.1), (5, .int i), (4, .ref (P.2.1 37)), (3, .ref (P.2.1 36)), (2, .ref (P.2.1 26)), (1, .ref (P.2.1 0)), (0, .ref b)]) hx hb dL_law_1122 hl (by decide) rfl (fun ls hl => ?_)
    refine lv_aload_n hx hb dL_law_1124 rfl (lv_at hl 5 rfl) ?_
    refine vu_i hP (vu_V S hF hP (h := 26) (hlt 26 (by decide)) rfl (by decide) rfl (c_X6_thrown l P hA (Nat.le_trans (by decide) hn) q2.2) ok_X6_thrown ml_L_132 ⟨Nat.le_of_ble_eq_true rfl, Nat.le_of_ble_eq_true rfl⟩ rfl hl.1 rfl (Nat.le_of_ble_eq_true rfl) dL_law_1125 ⟨by omega, by omega⟩) (fun H locs _ hP => ?_)
    refine lv_iload hx hb dL_law_1128 (lv_at hl 1 rfl) ?_
    obtain ⟨ck3, h⟩ := chk h
    refine lv_icmp_eq (tgt := 1135) hx hb dL_law_1130 (by decide) (fun _ => ?_) (fun c9 => absurd ck3 c9)
    refine lv_iload hx hb dL_law_1135 (lv_at hl 1 rfl) ?_
    obtain ⟨ck6, h⟩ := chk h
    obtain ⟨ck7, h⟩ := chk h
    obtain rfl := Option.some.inj h
    refine lv_if_ne (tgt := 1159) hx hb dL_law_1137 (by decide) (fun c4 => ?_) (fun c4 => ?_)
    · refine lv_goto (tgt := 2158) hx hb dL_law_1159 (by decide) ?_
      refine W.widen (k := cells + 2) (n := slots + 12) (by omega) (by omega) ?_
      exact kk _ _ _ hP (lv_sub hl [2, 3, 4, 5, 6, 7] rfl)
    · refine lv_aload_n hx hb dL_law_1140 rfl (lv_at hl 4 rfl) ?_
      refine lv_iconst (v := 0) hx hb dL_law_1141 (by decide) ?_
      refine vt_laldK (n := 1) 0 (by decide) S hF hP (hlt 36 (by decide)) rfl (by decide) dL_law_1142 ?_
      refine lv_iload hx hb dL_law_1143 (lv_at hl 0 rfl) ?_
      refine lv_if_eq (tgt := 1152) hx hb dL_law_1145 (by decide) (fun c5 => ?_) (fun c5 => ?_)
      · refine lv_lconst (v := 0) hx hb dL_law_1152 (by decide) ?_
        refine W.lcmp hx hb dL_law_1153 ?_
        refine lv_if_eq (tgt := 1159) hx hb dL_law_1154 (by decide) (fun _ => ?_) (fun c9 => absurd (ck6 c4 c5) c9)
        refine lv_goto (tgt := 2158) hx hb dL_law_1159 (by decide) ?_
        refine W.widen (k := cells + 2) (n := slots + 12) (by omega) (by omega) ?_
        exact kk _ _ _ hP (lv_sub hl [2, 3, 4, 5, 6, 7] rfl)
      · refine lv_lconst (v := 1) hx hb dL_law_1148 (by decide) ?_
        refine lv_goto (tgt := 1153) hx hb dL_law_1149 (by decide) ?_
        refine W.lcmp hx hb dL_law_1153 ?_
        refine lv_if_eq (tgt := 1159) hx hb dL_law_1154 (by decide) (fun _ => ?_) (fun c9 => absurd (ck7 c4 c5) c9)
        refine lv_goto (tgt := 2158) hx hb dL_law_1159 (by decide) ?_
        refine W.widen (k := cells + 2) (n := slots + 12) (by omega) (by omega) ?_
        exact kk _ _ _ hP (lv_sub hl [2, 3, 4, 5, 6, 7] rfl)
set_option maxRecDepth 100000 in
set_option maxHeartbeats 4000000 in
theorem k_16 {p : Program} {l : Launch} {e : Env} {s : State} {m : MethodId} {args : Array Value} {below : List Frame} {meth : Method} {c : Code} {Q : State → Prop} {P : Pl} {b L : Nat} {xs : Nat → Int32} {c0 : Cond} {i : Int32} (hst : l.stackTraces = false) (hA : Adr P) (hn : 38 ≤ P.2.2.2.1) (S : CallFix p m c cL_law 10 s args (c0 :: ALLW) RL) (hF : Fx P s) (hX : va_X b L xs s s.heap) (hbl : b < s.heap.size) (hbA : ¬ Ab P.2.2.2.2.1 b) (h1 : vp_in (i + 1) L) (h2 : vp_in (i + 2) L) (h3 : vp_in (i + 3) L) {w w' : Wo} {H : Heap} {locs : List Loc} {cells slots : Nat} {ls : Array Slot} (h : F_K_16 w (xs (Int32.toNatClampNeg (i + 1))) (xs (Int32.toNatClampNeg (i + 2))) (xs (Int32.toNatClampNeg (i + 3))) = some w') (hP : St P s w H locs) (hl : lv_has ls 10 (lvL P b i)) (hc : cells + 2 ≤ room_1.cells) (hs : slots + 12 ≤ room_1.slots)
    (kk : ∀ (H1 : Heap) (locs1 : List Loc) (ls1 : Array Slot), St P s w' H1 locs1 → lv_has ls1 10 (lvL P b i) → W p l e room_1 s m args below meth c H1 locs1 (cells + 2) (slots + 12) Q (F0 m 2158 ls1 [])) : W p l e room_1 s m args below meth c H locs cells slots Q (F0 m 1162 ls []) := by
  have hx := S.1
  have hb := S.2.1
  have hlt : ∀ h, h < 38 → h < P.2.2.2.1 := fun h q => Nat.lt_of_lt_of_le q hn
  unfold F_K_16 at h
  refine lv_aload_n hx hb dL_law_1162 rfl (lv_at hl 4 rfl) ?_
  obtain ⟨q1, hq1, h⟩ := ob h
  refine vu_i hP (vu_V S hF hP (h := 0) (hlt 0 (by decide)) rfl (by decide) rfl (c_X5_home l P hA (Nat.le_trans (by decide) hn) w hq1) ok_X5_home ml_L_186 ⟨Nat.le_of_ble_eq_true rfl, Nat.le_of_ble_eq_true rfl⟩ rfl hl.1 rfl (Nat.le_of_ble_eq_true rfl) dL_law_1163 ⟨by omega, by omega⟩) (fun H locs _ hP => ?_)
  refine lv_aload_n hx hb dL_law_1166 rfl (lv_at hl 3 rfl) ?_
  obtain ⟨q2, hq2, h⟩ := ob h
  refine vu_i hP (vu_V S hF hP (h := 26) (hlt 26 (by decide)) rfl (by decide) rfl (c_X6_home l P hA (Nat.le_trans (by decide) hn) w hq2) ok_X6_home ml_L_189 ⟨Nat.le_of_ble_eq_true rfl, Nat.le_of_ble_eq_true rfl⟩ rfl hl.1 rfl (Nat.le_of_ble_eq_true rfl) dL_law_1167 ⟨by omega, by omega⟩) (fun H locs _ hP => ?_)
  obtain ⟨ck3, h⟩ := chk h
  refine lv_icmp_eq (tgt := 2158) hx hb dL_law_1170 (by decide) (fun _ => ?_) (fun c9 => absurd ck3 c9)
  refine W.widen (k := cells + 2) (n := slots + 12) (by omega) (by omega) ?_
  obtain rfl := Option.some.inj h
  exact kk _ _ _ hP (lv_sub hl [0, 1, 2, 3, 4, 5] rfl)
set_option maxRecDepth 100000 in
set_option maxHeartbeats 4000000 in
theorem k_17 {p : Program} {l : Launch} {e : Env} {s : State} {m : MethodId} {args : Array Value} {below : List Frame} {meth : Method} {c : Code} {Q : State → Prop} {P : Pl} {b L : Nat} {xs : Nat → Int32} {c0 : Cond} {i : Int32} (hst : l.stackTraces = false) (hA : Adr P) (hn : 38 ≤ P.2.2.2.1) (S : CallFix p m c cL_law 10 s args (c0 :: ALLW) RL) (hF : Fx P s) (hX : va_X b L xs s s.heap) (hbl : b < s.heap.size) (hbA : ¬ Ab P.2.2.2.2.1 b) (h1 : vp_in (i + 1) L) (h2 : vp_in (i + 2) L) (h3 : vp_in (i + 3) L) {w w' : Wo} {H : Heap} {locs : List Loc} {cells slots : Nat} {ls : Array Slot} (h : F_K_17 w (xs (Int32.toNatClampNeg (i + 1))) (xs (Int32.toNatClampNeg (i + 2))) (xs (Int32.toNatClampNeg (i + 3))) = some w') (hP : St P s w H locs) (hl : lv_has ls 10 (lvL P b i)) (hc : cells + 2 ≤ room_1.cells) (hs : slots + 12 ≤ room_1.slots)
    (kk : ∀ (H1 : Heap) (locs1 : List Loc) (ls1 : Array Slot), St P s w' H1 locs1 → lv_has ls1 10 (lvL P b i) → W p l e room_1 s m args below meth c H1 locs1 (cells + 2) (slots + 12) Q (F0 m 2158 ls1 [])) : W p l e room_1 s m args below meth c H locs cells slots Q (F0 m 1175 ls []) := by
  have hx := S.1
  have hb := S.2.1
  have hlt : ∀ h, h < 38 → h < P.2.2.2.1 := fun h q => Nat.lt_of_lt_of_le q hn
  unfold F_K_17 at h
  refine lv_aload_n hx hb dL_law_1175 rfl (lv_at hl 4 rfl) ?_
  refine lv_aload_n hx hb dL_law_1176 rfl (lv_at hl 5 rfl) ?_
  refine lv_iload hx hb dL_law_1177 (lv_at hl 0 rfl) ?_
  refine lv_iconst (v := 1) hx hb dL_law_1179 (by decide) ?_
  refine lv_iadd hx hb dL_law_1180 ?_
  refine va_sld hx hb hX hbl hbA hP.2 h1 dL_law_1181 ?_
  refine lv_aload_n hx hb dL_law_1182 rfl (lv_at hl 2 rfl) ?_
  obtain ⟨q1, hq1, h⟩ := ob h
  refine vu_SW S hF hP (c_L_would l P hA hn hst (xs (Int32.toNatClampNeg (i + 1))) w hq1) ok_L_would ml_L_190 ⟨Nat.le_of_ble_eq_true rfl, Nat.le_of_ble_eq_true rfl⟩ rfl hl.1 rfl (Nat.le_of_ble_eq_true rfl) dL_law_1183 ⟨by omega, by omega⟩ (fun H locs hP => ?_)
  refine lv_istore (lv' := [(6, .int q1.1), (5, .int i), (4, .ref (P.2.1 37)), (3, .ref (P.2.1 36)), (2, .ref (P.2.1 26)), (1, .ref (P.2.1 0)), (0, .ref b)]) hx hb dL_law_1186 hl (by decide) rfl (fun ls hl => ?_)
  refine lv_aload_n hx hb dL_law_1188 rfl (lv_at hl 4 rfl) ?_
  refine lv_aload_n hx hb dL_law_1189 rfl (lv_at hl 6 rfl) ?_
  refine lv_iload hx hb dL_law_1190 (lv_at hl 1 rfl) ?_
  refine lv_iconst (v := 1) hx hb dL_law_1192 (by decide) ?_
  refine lv_iadd hx hb dL_law_1193 ?_
  refine va_sld hx hb hX hbl hbA hP.2 h1 dL_law_1194 ?_
  obtain ⟨q2, hq2, h⟩ := ob h
  refine vu_i hP (vu_V S hF hP (h := 26) (hlt 26 (by decide)) rfl (by decide) rfl (c_X6_would l P hA (Nat.le_trans (by decide) hn) q1.2 (xs (Int32.toNatClampNeg (i + 1))) hq2) ok_X6_would ml_L_192 ⟨Nat.le_of_ble_eq_true rfl, Nat.le_of_ble_eq_true rfl⟩ rfl hl.1 rfl (Nat.le_of_ble_eq_true rfl) dL_law_1195 ⟨by omega, by omega⟩) (fun H locs _ hP => ?_)
  refine lv_istore (lv' := [(7, .int q2.1), (6, .int q1.1), (5, .int i), (4, .ref (P.2.1 37)), (3, .ref (P.2.1 36)), (2, .ref (P.2.1 26)), (1, .ref (P.2.1 0)), (0, .ref b)]) hx hb dL_law_1198 hl (by decide) rfl (fun ls hl => ?_)
  refine lv_aload_n hx hb dL_law_1200 rfl (lv_at hl 5 rfl) ?_
  refine vu_i hP (vu_V S hF hP (h := 26) (hlt 26 (by decide)) rfl (by decide) rfl (c_X6_thrown l P hA (Nat.le_trans (by decide) hn) q2.2) ok_X6_thrown ml_L_132 ⟨Nat.le_of_ble_eq_true rfl, Nat.le_of_ble_eq_true rfl⟩ rfl hl.1 rfl (Nat.le_of_ble_eq_true rfl) dL_law_1201 ⟨by omega, by omega⟩) (fun H locs _ hP => ?_)
  refine lv_iload hx hb dL_law_1204 (lv_at hl 1 rfl) ?_
  obtain ⟨ck3, h⟩ := chk h
  refine lv_icmp_eq (tgt := 1211) hx hb dL_law_1206 (by decide) (fun _ => ?_) (fun c9 => absurd ck3 c9)
  refine lv_iload hx hb dL_law_1211 (lv_at hl 1 rfl) ?_
  obtain ⟨ck5, h⟩ := chk h
  obtain rfl := Option.some.inj h
  refine lv_if_ne (tgt := 1228) hx hb dL_law_1213 (by decide) (fun c4 => ?_) (fun c4 => ?_)
  · refine lv_goto (tgt := 2158) hx hb dL_law_1228 (by decide) ?_
    refine W.widen (k := cells + 2) (n := slots + 12) (by omega) (by omega) ?_
    exact kk _ _ _ hP (lv_sub hl [2, 3, 4, 5, 6, 7] rfl)
  · refine lv_aload_n hx hb dL_law_1216 rfl (lv_at hl 4 rfl) ?_
    refine lv_iconst (v := 0) hx hb dL_law_1217 (by decide) ?_
    refine vt_laldK (n := 1) 0 (by decide) S hF hP (hlt 36 (by decide)) rfl (by decide) dL_law_1218 ?_
    refine lv_iload hx hb dL_law_1219 (lv_at hl 0 rfl) ?_
    refine lv_i2l hx hb dL_law_1221 rfl ?_
    refine W.lcmp hx hb dL_law_1222 ?_
    refine lv_if_eq (tgt := 1228) hx hb dL_law_1223 (by decide) (fun _ => ?_) (fun c9 => absurd (ck5 c4) c9)
    refine lv_goto (tgt := 2158) hx hb dL_law_1228 (by decide) ?_
    refine W.widen (k := cells + 2) (n := slots + 12) (by omega) (by omega) ?_
    exact kk _ _ _ hP (lv_sub hl [2, 3, 4, 5, 6, 7] rfl)
set_option maxRecDepth 100000 in
set_option maxHeartbeats 4000000 in
theorem k_18 {p : Program} {l : Launch} {e : Env} {s : State} {m : MethodId} {args : Array Value} {below : List Frame} {meth : Method} {c : Code} {Q : State → Prop} {P : Pl} {b L : Nat} {xs : Nat → Int32} {c0 : Cond} {i : Int32} (hst : l.stackTraces = false) (hA : Adr P) (hn : 38 ≤ P.2.2.2.1) (S : CallFix p m c cL_law 10 s args (c0 :: ALLW) RL) (hF : Fx P s) (hX : va_X b L xs s s.heap) (hbl : b < s.heap.size) (hbA : ¬ Ab P.2.2.2.2.1 b) (h1 : vp_in (i + 1) L) (h2 : vp_in (i + 2) L) (h3 : vp_in (i + 3) L) {w w' : Wo} {H : Heap} {locs : List Loc} {cells slots : Nat} {ls : Array Slot} (h : F_K_18 w (xs (Int32.toNatClampNeg (i + 1))) (xs (Int32.toNatClampNeg (i + 2))) (xs (Int32.toNatClampNeg (i + 3))) = some w') (hP : St P s w H locs) (hl : lv_has ls 10 (lvL P b i)) (hc : cells + 2 ≤ room_1.cells) (hs : slots + 12 ≤ room_1.slots)
    (kk : ∀ (H1 : Heap) (locs1 : List Loc) (ls1 : Array Slot), St P s w' H1 locs1 → lv_has ls1 10 (lvL P b i) → W p l e room_1 s m args below meth c H1 locs1 (cells + 2) (slots + 12) Q (F0 m 2158 ls1 [])) : W p l e room_1 s m args below meth c H locs cells slots Q (F0 m 1231 ls []) := by
  have hx := S.1
  have hb := S.2.1
  have hlt : ∀ h, h < 38 → h < P.2.2.2.1 := fun h q => Nat.lt_of_lt_of_le q hn
  unfold F_K_18 at h
  refine lv_aload_n hx hb dL_law_1231 rfl (lv_at hl 4 rfl) ?_
  refine lv_aload_n hx hb dL_law_1232 rfl (lv_at hl 2 rfl) ?_
  obtain ⟨q1, hq1, h⟩ := ob h
  refine vu_SW S hF hP (c_L_best l P hA hn hst w hq1) ok_L_best ml_L_193 ⟨Nat.le_of_ble_eq_true rfl, Nat.le_of_ble_eq_true rfl⟩ rfl hl.1 rfl (Nat.le_of_ble_eq_true rfl) dL_law_1233 ⟨by omega, by omega⟩ (fun H locs hP => ?_)
  refine lv_istore (lv' := [(6, .int q1.1), (5, .int i), (4, .ref (P.2.1 37)), (3, .ref (P.2.1 36)), (2, .ref (P.2.1 26)), (1, .ref (P.2.1 0)), (0, .ref b)]) hx hb dL_law_1236 hl (by decide) rfl (fun ls hl => ?_)
  refine lv_aload_n hx hb dL_law_1238 rfl (lv_at hl 4 rfl) ?_
  obtain ⟨q2, hq2, h⟩ := ob h
  refine vu_i hP (vu_V S hF hP (h := 26) (hlt 26 (by decide)) rfl (by decide) rfl (c_X6_best l P hA (Nat.le_trans (by decide) hn) q1.2 hq2) ok_X6_best ml_L_195 ⟨Nat.le_of_ble_eq_true rfl, Nat.le_of_ble_eq_true rfl⟩ rfl hl.1 rfl (Nat.le_of_ble_eq_true rfl) dL_law_1239 ⟨by omega, by omega⟩) (fun H locs _ hP => ?_)
  refine lv_istore (lv' := [(7, .int q2.1), (6, .int q1.1), (5, .int i), (4, .ref (P.2.1 37)), (3, .ref (P.2.1 36)), (2, .ref (P.2.1 26)), (1, .ref (P.2.1 0)), (0, .ref b)]) hx hb dL_law_1242 hl (by decide) rfl (fun ls hl => ?_)
  refine lv_aload_n hx hb dL_law_1244 rfl (lv_at hl 5 rfl) ?_
  refine vu_i hP (vu_V S hF hP (h := 26) (hlt 26 (by decide)) rfl (by decide) rfl (c_X6_thrown l P hA (Nat.le_trans (by decide) hn) q2.2) ok_X6_thrown ml_L_132 ⟨Nat.le_of_ble_eq_true rfl, Nat.le_of_ble_eq_true rfl⟩ rfl hl.1 rfl (Nat.le_of_ble_eq_true rfl) dL_law_1245 ⟨by omega, by omega⟩) (fun H locs _ hP => ?_)
  refine lv_iload hx hb dL_law_1248 (lv_at hl 1 rfl) ?_
  obtain ⟨ck3, h⟩ := chk h
  refine lv_icmp_eq (tgt := 1255) hx hb dL_law_1250 (by decide) (fun _ => ?_) (fun c9 => absurd ck3 c9)
  refine lv_iload hx hb dL_law_1255 (lv_at hl 1 rfl) ?_
  obtain ⟨ck5, h⟩ := chk h
  obtain rfl := Option.some.inj h
  refine lv_if_ne (tgt := 1272) hx hb dL_law_1257 (by decide) (fun c4 => ?_) (fun c4 => ?_)
  · refine lv_goto (tgt := 2158) hx hb dL_law_1272 (by decide) ?_
    refine W.widen (k := cells + 2) (n := slots + 12) (by omega) (by omega) ?_
    exact kk _ _ _ hP (lv_sub hl [2, 3, 4, 5, 6, 7] rfl)
  · refine lv_aload_n hx hb dL_law_1260 rfl (lv_at hl 4 rfl) ?_
    refine lv_iconst (v := 0) hx hb dL_law_1261 (by decide) ?_
    refine vt_laldK (n := 1) 0 (by decide) S hF hP (hlt 36 (by decide)) rfl (by decide) dL_law_1262 ?_
    refine lv_iload hx hb dL_law_1263 (lv_at hl 0 rfl) ?_
    refine lv_i2l hx hb dL_law_1265 rfl ?_
    refine W.lcmp hx hb dL_law_1266 ?_
    refine lv_if_eq (tgt := 1272) hx hb dL_law_1267 (by decide) (fun _ => ?_) (fun c9 => absurd (ck5 c4) c9)
    refine lv_goto (tgt := 2158) hx hb dL_law_1272 (by decide) ?_
    refine W.widen (k := cells + 2) (n := slots + 12) (by omega) (by omega) ?_
    exact kk _ _ _ hP (lv_sub hl [2, 3, 4, 5, 6, 7] rfl)
set_option maxRecDepth 100000 in
set_option maxHeartbeats 4000000 in
theorem k_19 {p : Program} {l : Launch} {e : Env} {s : State} {m : MethodId} {args : Array Value} {below : List Frame} {meth : Method} {c : Code} {Q : State → Prop} {P : Pl} {b L : Nat} {xs : Nat → Int32} {c0 : Cond} {i : Int32} (hst : l.stackTraces = false) (hA : Adr P) (hn : 38 ≤ P.2.2.2.1) (S : CallFix p m c cL_law 10 s args (c0 :: ALLW) RL) (hF : Fx P s) (hX : va_X b L xs s s.heap) (hbl : b < s.heap.size) (hbA : ¬ Ab P.2.2.2.2.1 b) (h1 : vp_in (i + 1) L) (h2 : vp_in (i + 2) L) (h3 : vp_in (i + 3) L) {w w' : Wo} {H : Heap} {locs : List Loc} {cells slots : Nat} {ls : Array Slot} (h : F_K_19 w (xs (Int32.toNatClampNeg (i + 1))) (xs (Int32.toNatClampNeg (i + 2))) (xs (Int32.toNatClampNeg (i + 3))) = some w') (hP : St P s w H locs) (hl : lv_has ls 10 (lvL P b i)) (hc : cells + 2 ≤ room_1.cells) (hs : slots + 12 ≤ room_1.slots)
    (kk : ∀ (H1 : Heap) (locs1 : List Loc) (ls1 : Array Slot), St P s w' H1 locs1 → lv_has ls1 10 (lvL P b i) → W p l e room_1 s m args below meth c H1 locs1 (cells + 2) (slots + 12) Q (F0 m 2158 ls1 [])) : W p l e room_1 s m args below meth c H locs cells slots Q (F0 m 1275 ls []) := by
  have hx := S.1
  have hb := S.2.1
  have hlt : ∀ h, h < 38 → h < P.2.2.2.1 := fun h q => Nat.lt_of_lt_of_le q hn
  unfold F_K_19 at h
  refine lv_aload_n hx hb dL_law_1275 rfl (lv_at hl 4 rfl) ?_
  refine lv_aload_n hx hb dL_law_1276 rfl (lv_at hl 5 rfl) ?_
  refine lv_iload hx hb dL_law_1277 (lv_at hl 0 rfl) ?_
  refine lv_iconst (v := 1) hx hb dL_law_1279 (by decide) ?_
  refine lv_iadd hx hb dL_law_1280 ?_
  refine va_sld hx hb hX hbl hbA hP.2 h1 dL_law_1281 ?_
  refine lv_aload_n hx hb dL_law_1282 rfl (lv_at hl 5 rfl) ?_
  refine lv_iload hx hb dL_law_1283 (lv_at hl 0 rfl) ?_
  refine lv_iconst (v := 2) hx hb dL_law_1285 (by decide) ?_
  refine lv_iadd hx hb dL_law_1286 ?_
  refine va_sld hx hb hX hbl hbA hP.2 h2 dL_law_1287 ?_
  refine lv_aload_n hx hb dL_law_1288 rfl (lv_at hl 5 rfl) ?_
  refine lv_iload hx hb dL_law_1289 (lv_at hl 0 rfl) ?_
  refine lv_iconst (v := 3) hx hb dL_law_1291 (by decide) ?_
  refine lv_iadd hx hb dL_law_1292 ?_
  refine va_sld hx hb hX hbl hbA hP.2 h3 dL_law_1293 ?_
  refine lv_aload_n hx hb dL_law_1294 rfl (lv_at hl 2 rfl) ?_
  obtain ⟨q1, hq1, h⟩ := ob h
  refine vu_SW S hF hP (c_L_where l P hA hn hst (xs (Int32.toNatClampNeg (i + 1))) (xs (Int32.toNatClampNeg (i + 2))) (xs (Int32.toNatClampNeg (i + 3))) w hq1) ok_L_where ml_L_196 ⟨Nat.le_of_ble_eq_true rfl, Nat.le_of_ble_eq_true rfl⟩ rfl hl.1 rfl (Nat.le_of_ble_eq_true rfl) dL_law_1295 ⟨by omega, by omega⟩ (fun H locs hP => ?_)
  refine lv_istore (lv' := [(6, .int q1.1), (5, .int i), (4, .ref (P.2.1 37)), (3, .ref (P.2.1 36)), (2, .ref (P.2.1 26)), (1, .ref (P.2.1 0)), (0, .ref b)]) hx hb dL_law_1298 hl (by decide) rfl (fun ls hl => ?_)
  refine lv_aload_n hx hb dL_law_1300 rfl (lv_at hl 4 rfl) ?_
  refine lv_aload_n hx hb dL_law_1301 rfl (lv_at hl 6 rfl) ?_
  refine lv_iload hx hb dL_law_1302 (lv_at hl 1 rfl) ?_
  refine lv_iconst (v := 1) hx hb dL_law_1304 (by decide) ?_
  refine lv_iadd hx hb dL_law_1305 ?_
  refine va_sld hx hb hX hbl hbA hP.2 h1 dL_law_1306 ?_
  refine lv_aload_n hx hb dL_law_1307 rfl (lv_at hl 6 rfl) ?_
  refine lv_iload hx hb dL_law_1308 (lv_at hl 1 rfl) ?_
  refine lv_iconst (v := 2) hx hb dL_law_1310 (by decide) ?_
  refine lv_iadd hx hb dL_law_1311 ?_
  refine va_sld hx hb hX hbl hbA hP.2 h2 dL_law_1312 ?_
  refine lv_aload_n hx hb dL_law_1313 rfl (lv_at hl 6 rfl) ?_
  refine lv_iload hx hb dL_law_1314 (lv_at hl 1 rfl) ?_
  refine lv_iconst (v := 3) hx hb dL_law_1316 (by decide) ?_
  refine lv_iadd hx hb dL_law_1317 ?_
  refine va_sld hx hb hX hbl hbA hP.2 h3 dL_law_1318 ?_
  obtain ⟨q2, hq2, h⟩ := ob h
  refine vu_i hP (vu_V S hF hP (h := 26) (hlt 26 (by decide)) rfl (by decide) rfl (c_X6_where l P hA (Nat.le_trans (by decide) hn) q1.2 (xs (Int32.toNatClampNeg (i + 1))) (xs (Int32.toNatClampNeg (i + 2))) (xs (Int32.toNatClampNeg (i + 3))) hq2) ok_X6_where ml_L_199 ⟨Nat.le_of_ble_eq_true rfl, Nat.le_of_ble_eq_true rfl⟩ rfl hl.1 rfl (Nat.le_of_ble_eq_true rfl) dL_law_1319 ⟨by omega, by omega⟩) (fun H locs _ hP => ?_)
  refine lv_istore (lv' := [(7, .int q2.1), (6, .int q1.1), (5, .int i), (4, .ref (P.2.1 37)), (3, .ref (P.2.1 36)), (2, .ref (P.2.1 26)), (1, .ref (P.2.1 0)), (0, .ref b)]) hx hb dL_law_1322 hl (by decide) rfl (fun ls hl => ?_)
  refine lv_aload_n hx hb dL_law_1324 rfl (lv_at hl 5 rfl) ?_
  refine vu_i hP (vu_V S hF hP (h := 26) (hlt 26 (by decide)) rfl (by decide) rfl (c_X6_thrown l P hA (Nat.le_trans (by decide) hn) q2.2) ok_X6_thrown ml_L_132 ⟨Nat.le_of_ble_eq_true rfl, Nat.le_of_ble_eq_true rfl⟩ rfl hl.1 rfl (Nat.le_of_ble_eq_true rfl) dL_law_1325 ⟨by omega, by omega⟩) (fun H locs _ hP => ?_)
  refine lv_iload hx hb dL_law_1328 (lv_at hl 1 rfl) ?_
  obtain ⟨ck3, h⟩ := chk h
  refine lv_icmp_eq (tgt := 1335) hx hb dL_law_1330 (by decide) (fun _ => ?_) (fun c9 => absurd ck3 c9)
  refine lv_iload hx hb dL_law_1335 (lv_at hl 1 rfl) ?_
  obtain ⟨ck5, h⟩ := chk h
  obtain rfl := Option.some.inj h
  refine lv_if_ne (tgt := 1352) hx hb dL_law_1337 (by decide) (fun c4 => ?_) (fun c4 => ?_)
  · refine lv_goto (tgt := 2158) hx hb dL_law_1352 (by decide) ?_
    refine W.widen (k := cells + 2) (n := slots + 12) (by omega) (by omega) ?_
    exact kk _ _ _ hP (lv_sub hl [2, 3, 4, 5, 6, 7] rfl)
  · refine lv_aload_n hx hb dL_law_1340 rfl (lv_at hl 4 rfl) ?_
    refine lv_iconst (v := 0) hx hb dL_law_1341 (by decide) ?_
    refine vt_laldK (n := 1) 0 (by decide) S hF hP (hlt 36 (by decide)) rfl (by decide) dL_law_1342 ?_
    refine lv_iload hx hb dL_law_1343 (lv_at hl 0 rfl) ?_
    refine lv_i2l hx hb dL_law_1345 rfl ?_
    refine W.lcmp hx hb dL_law_1346 ?_
    refine lv_if_eq (tgt := 1352) hx hb dL_law_1347 (by decide) (fun _ => ?_) (fun c9 => absurd (ck5 c4) c9)
    refine lv_goto (tgt := 2158) hx hb dL_law_1352 (by decide) ?_
    refine W.widen (k := cells + 2) (n := slots + 12) (by omega) (by omega) ?_
    exact kk _ _ _ hP (lv_sub hl [2, 3, 4, 5, 6, 7] rfl)
set_option maxRecDepth 100000 in
set_option maxHeartbeats 4000000 in
theorem k_20 {p : Program} {l : Launch} {e : Env} {s : State} {m : MethodId} {args : Array Value} {below : List Frame} {meth : Method} {c : Code} {Q : State → Prop} {P : Pl} {b L : Nat} {xs : Nat → Int32} {c0 : Cond} {i : Int32} (hst : l.stackTraces = false) (hA : Adr P) (hn : 38 ≤ P.2.2.2.1) (S : CallFix p m c cL_law 10 s args (c0 :: ALLW) RL) (hF : Fx P s) (hX : va_X b L xs s s.heap) (hbl : b < s.heap.size) (hbA : ¬ Ab P.2.2.2.2.1 b) (h1 : vp_in (i + 1) L) (h2 : vp_in (i + 2) L) (h3 : vp_in (i + 3) L) {w w' : Wo} {H : Heap} {locs : List Loc} {cells slots : Nat} {ls : Array Slot} (h : F_K_20 w (xs (Int32.toNatClampNeg (i + 1))) (xs (Int32.toNatClampNeg (i + 2))) (xs (Int32.toNatClampNeg (i + 3))) = some w') (hP : St P s w H locs) (hl : lv_has ls 10 (lvL P b i)) (hc : cells + 2 ≤ room_1.cells) (hs : slots + 12 ≤ room_1.slots)
    (kk : ∀ (H1 : Heap) (locs1 : List Loc) (ls1 : Array Slot), St P s w' H1 locs1 → lv_has ls1 10 (lvL P b i) → W p l e room_1 s m args below meth c H1 locs1 (cells + 2) (slots + 12) Q (F0 m 2158 ls1 [])) : W p l e room_1 s m args below meth c H locs cells slots Q (F0 m 1355 ls []) := by
  have hx := S.1
  have hb := S.2.1
  have hlt : ∀ h, h < 38 → h < P.2.2.2.1 := fun h q => Nat.lt_of_lt_of_le q hn
  unfold F_K_20 at h
  refine lv_aload_n hx hb dL_law_1355 rfl (lv_at hl 4 rfl) ?_
  refine lv_aload_n hx hb dL_law_1356 rfl (lv_at hl 5 rfl) ?_
  refine lv_iload hx hb dL_law_1357 (lv_at hl 0 rfl) ?_
  refine lv_iconst (v := 1) hx hb dL_law_1359 (by decide) ?_
  refine lv_iadd hx hb dL_law_1360 ?_
  refine va_sld hx hb hX hbl hbA hP.2 h1 dL_law_1361 ?_
  refine lv_aload_n hx hb dL_law_1362 rfl (lv_at hl 5 rfl) ?_
  refine lv_iload hx hb dL_law_1363 (lv_at hl 0 rfl) ?_
  refine lv_iconst (v := 2) hx hb dL_law_1365 (by decide) ?_
  refine lv_iadd hx hb dL_law_1366 ?_
  refine va_sld hx hb hX hbl hbA hP.2 h2 dL_law_1367 ?_
  refine lv_aload_n hx hb dL_law_1368 rfl (lv_at hl 2 rfl) ?_
  obtain ⟨q1, hq1, h⟩ := ob h
  refine vu_SW S hF hP (c_L_far l P hA hn hst (xs (Int32.toNatClampNeg (i + 1))) (xs (Int32.toNatClampNeg (i + 2))) w hq1) ok_L_far ml_L_200 ⟨Nat.le_of_ble_eq_true rfl, Nat.le_of_ble_eq_true rfl⟩ rfl hl.1 rfl (Nat.le_of_ble_eq_true rfl) dL_law_1369 ⟨by omega, by omega⟩ (fun H locs hP => ?_)
  refine lv_istore (lv' := [(6, .int q1.1), (5, .int i), (4, .ref (P.2.1 37)), (3, .ref (P.2.1 36)), (2, .ref (P.2.1 26)), (1, .ref (P.2.1 0)), (0, .ref b)]) hx hb dL_law_1372 hl (by decide) rfl (fun ls hl => ?_)
  refine lv_aload_n hx hb dL_law_1374 rfl (lv_at hl 4 rfl) ?_
  refine lv_aload_n hx hb dL_law_1375 rfl (lv_at hl 6 rfl) ?_
  refine lv_iload hx hb dL_law_1376 (lv_at hl 1 rfl) ?_
  refine lv_iconst (v := 1) hx hb dL_law_1378 (by decide) ?_
  refine lv_iadd hx hb dL_law_1379 ?_
  refine va_sld hx hb hX hbl hbA hP.2 h1 dL_law_1380 ?_
  refine lv_aload_n hx hb dL_law_1381 rfl (lv_at hl 6 rfl) ?_
  refine lv_iload hx hb dL_law_1382 (lv_at hl 1 rfl) ?_
  refine lv_iconst (v := 2) hx hb dL_law_1384 (by decide) ?_
  refine lv_iadd hx hb dL_law_1385 ?_
  refine va_sld hx hb hX hbl hbA hP.2 h2 dL_law_1386 ?_
  obtain ⟨q2, hq2, h⟩ := ob h
  refine vu_i hP (vu_V S hF hP (h := 26) (hlt 26 (by decide)) rfl (by decide) rfl (c_X6_far l P hA (Nat.le_trans (by decide) hn) q1.2 (xs (Int32.toNatClampNeg (i + 1))) (xs (Int32.toNatClampNeg (i + 2))) hq2) ok_X6_far ml_L_202 ⟨Nat.le_of_ble_eq_true rfl, Nat.le_of_ble_eq_true rfl⟩ rfl hl.1 rfl (Nat.le_of_ble_eq_true rfl) dL_law_1387 ⟨by omega, by omega⟩) (fun H locs _ hP => ?_)
  refine lv_istore (lv' := [(7, .int q2.1), (6, .int q1.1), (5, .int i), (4, .ref (P.2.1 37)), (3, .ref (P.2.1 36)), (2, .ref (P.2.1 26)), (1, .ref (P.2.1 0)), (0, .ref b)]) hx hb dL_law_1390 hl (by decide) rfl (fun ls hl => ?_)
  refine lv_aload_n hx hb dL_law_1392 rfl (lv_at hl 5 rfl) ?_
  refine vu_i hP (vu_V S hF hP (h := 26) (hlt 26 (by decide)) rfl (by decide) rfl (c_X6_thrown l P hA (Nat.le_trans (by decide) hn) q2.2) ok_X6_thrown ml_L_132 ⟨Nat.le_of_ble_eq_true rfl, Nat.le_of_ble_eq_true rfl⟩ rfl hl.1 rfl (Nat.le_of_ble_eq_true rfl) dL_law_1393 ⟨by omega, by omega⟩) (fun H locs _ hP => ?_)
  refine lv_iload hx hb dL_law_1396 (lv_at hl 1 rfl) ?_
  obtain ⟨ck3, h⟩ := chk h
  refine lv_icmp_eq (tgt := 1403) hx hb dL_law_1398 (by decide) (fun _ => ?_) (fun c9 => absurd ck3 c9)
  refine lv_iload hx hb dL_law_1403 (lv_at hl 1 rfl) ?_
  obtain ⟨ck5, h⟩ := chk h
  obtain rfl := Option.some.inj h
  refine lv_if_ne (tgt := 1420) hx hb dL_law_1405 (by decide) (fun c4 => ?_) (fun c4 => ?_)
  · refine lv_goto (tgt := 2158) hx hb dL_law_1420 (by decide) ?_
    refine W.widen (k := cells + 2) (n := slots + 12) (by omega) (by omega) ?_
    exact kk _ _ _ hP (lv_sub hl [2, 3, 4, 5, 6, 7] rfl)
  · refine lv_aload_n hx hb dL_law_1408 rfl (lv_at hl 4 rfl) ?_
    refine lv_iconst (v := 0) hx hb dL_law_1409 (by decide) ?_
    refine vt_laldK (n := 1) 0 (by decide) S hF hP (hlt 36 (by decide)) rfl (by decide) dL_law_1410 ?_
    refine lv_iload hx hb dL_law_1411 (lv_at hl 0 rfl) ?_
    refine lv_i2l hx hb dL_law_1413 rfl ?_
    refine W.lcmp hx hb dL_law_1414 ?_
    refine lv_if_eq (tgt := 1420) hx hb dL_law_1415 (by decide) (fun _ => ?_) (fun c9 => absurd (ck5 c4) c9)
    refine lv_goto (tgt := 2158) hx hb dL_law_1420 (by decide) ?_
    refine W.widen (k := cells + 2) (n := slots + 12) (by omega) (by omega) ?_
    exact kk _ _ _ hP (lv_sub hl [2, 3, 4, 5, 6, 7] rfl)
set_option maxRecDepth 100000 in
set_option maxHeartbeats 4000000 in
theorem k_21 {p : Program} {l : Launch} {e : Env} {s : State} {m : MethodId} {args : Array Value} {below : List Frame} {meth : Method} {c : Code} {Q : State → Prop} {P : Pl} {b L : Nat} {xs : Nat → Int32} {c0 : Cond} {i : Int32} (hst : l.stackTraces = false) (hA : Adr P) (hn : 38 ≤ P.2.2.2.1) (S : CallFix p m c cL_law 10 s args (c0 :: ALLW) RL) (hF : Fx P s) (hX : va_X b L xs s s.heap) (hbl : b < s.heap.size) (hbA : ¬ Ab P.2.2.2.2.1 b) (h1 : vp_in (i + 1) L) (h2 : vp_in (i + 2) L) (h3 : vp_in (i + 3) L) {w w' : Wo} {H : Heap} {locs : List Loc} {cells slots : Nat} {ls : Array Slot} (h : F_K_21 w (xs (Int32.toNatClampNeg (i + 1))) (xs (Int32.toNatClampNeg (i + 2))) (xs (Int32.toNatClampNeg (i + 3))) = some w') (hP : St P s w H locs) (hl : lv_has ls 10 (lvL P b i)) (hc : cells + 2 ≤ room_1.cells) (hs : slots + 12 ≤ room_1.slots)
    (kk : ∀ (H1 : Heap) (locs1 : List Loc) (ls1 : Array Slot), St P s w' H1 locs1 → lv_has ls1 10 (lvL P b i) → W p l e room_1 s m args below meth c H1 locs1 (cells + 2) (slots + 12) Q (F0 m 2158 ls1 [])) : W p l e room_1 s m args below meth c H locs cells slots Q (F0 m 1423 ls []) := by
  have hx := S.1
  have hb := S.2.1
  have hlt : ∀ h, h < 38 → h < P.2.2.2.1 := fun h q => Nat.lt_of_lt_of_le q hn
  unfold F_K_21 at h
  refine lv_aload_n hx hb dL_law_1423 rfl (lv_at hl 4 rfl) ?_
  refine lv_aload_n hx hb dL_law_1424 rfl (lv_at hl 5 rfl) ?_
  refine lv_iload hx hb dL_law_1425 (lv_at hl 0 rfl) ?_
  refine lv_iconst (v := 1) hx hb dL_law_1427 (by decide) ?_
  refine lv_iadd hx hb dL_law_1428 ?_
  refine va_sld hx hb hX hbl hbA hP.2 h1 dL_law_1429 ?_
  refine lv_aload_n hx hb dL_law_1430 rfl (lv_at hl 2 rfl) ?_
  obtain ⟨q1, hq1, h⟩ := ob h
  refine vu_SW S hF hP (c_L_sings l P hA hn hst (xs (Int32.toNatClampNeg (i + 1))) w hq1) ok_L_sings ml_L_203 ⟨Nat.le_of_ble_eq_true rfl, Nat.le_of_ble_eq_true rfl⟩ rfl hl.1 rfl (Nat.le_of_ble_eq_true rfl) dL_law_1431 ⟨by omega, by omega⟩ (fun H locs hP => ?_)
  refine lv_istore (lv' := [(6, .int q1.1), (5, .int i), (4, .ref (P.2.1 37)), (3, .ref (P.2.1 36)), (2, .ref (P.2.1 26)), (1, .ref (P.2.1 0)), (0, .ref b)]) hx hb dL_law_1434 hl (by decide) rfl (fun ls hl => ?_)
  refine lv_aload_n hx hb dL_law_1436 rfl (lv_at hl 4 rfl) ?_
  refine lv_aload_n hx hb dL_law_1437 rfl (lv_at hl 6 rfl) ?_
  refine lv_iload hx hb dL_law_1438 (lv_at hl 1 rfl) ?_
  refine lv_iconst (v := 1) hx hb dL_law_1440 (by decide) ?_
  refine lv_iadd hx hb dL_law_1441 ?_
  refine va_sld hx hb hX hbl hbA hP.2 h1 dL_law_1442 ?_
  obtain ⟨q2, hq2, h⟩ := ob h
  refine vu_i hP (vu_V S hF hP (h := 26) (hlt 26 (by decide)) rfl (by decide) rfl (c_X6_sings l P hA (Nat.le_trans (by decide) hn) q1.2 (xs (Int32.toNatClampNeg (i + 1))) hq2) ok_X6_sings ml_L_205 ⟨Nat.le_of_ble_eq_true rfl, Nat.le_of_ble_eq_true rfl⟩ rfl hl.1 rfl (Nat.le_of_ble_eq_true rfl) dL_law_1443 ⟨by omega, by omega⟩) (fun H locs _ hP => ?_)
  refine lv_istore (lv' := [(7, .int q2.1), (6, .int q1.1), (5, .int i), (4, .ref (P.2.1 37)), (3, .ref (P.2.1 36)), (2, .ref (P.2.1 26)), (1, .ref (P.2.1 0)), (0, .ref b)]) hx hb dL_law_1446 hl (by decide) rfl (fun ls hl => ?_)
  refine lv_aload_n hx hb dL_law_1448 rfl (lv_at hl 5 rfl) ?_
  refine vu_i hP (vu_V S hF hP (h := 26) (hlt 26 (by decide)) rfl (by decide) rfl (c_X6_thrown l P hA (Nat.le_trans (by decide) hn) q2.2) ok_X6_thrown ml_L_132 ⟨Nat.le_of_ble_eq_true rfl, Nat.le_of_ble_eq_true rfl⟩ rfl hl.1 rfl (Nat.le_of_ble_eq_true rfl) dL_law_1449 ⟨by omega, by omega⟩) (fun H locs _ hP => ?_)
  refine lv_iload hx hb dL_law_1452 (lv_at hl 1 rfl) ?_
  obtain ⟨ck3, h⟩ := chk h
  refine lv_icmp_eq (tgt := 1459) hx hb dL_law_1454 (by decide) (fun _ => ?_) (fun c9 => absurd ck3 c9)
  refine lv_iload hx hb dL_law_1459 (lv_at hl 1 rfl) ?_
  obtain ⟨ck6, h⟩ := chk h
  obtain ⟨ck7, h⟩ := chk h
  obtain rfl := Option.some.inj h
  refine lv_if_ne (tgt := 1483) hx hb dL_law_1461 (by decide) (fun c4 => ?_) (fun c4 => ?_)
  · refine lv_goto (tgt := 2158) hx hb dL_law_1483 (by decide) ?_
    refine W.widen (k := cells + 2) (n := slots + 12) (by omega) (by omega) ?_
    exact kk _ _ _ hP (lv_sub hl [2, 3, 4, 5, 6, 7] rfl)
  · refine lv_aload_n hx hb dL_law_1464 rfl (lv_at hl 4 rfl) ?_
    refine lv_iconst (v := 0) hx hb dL_law_1465 (by decide) ?_
    refine vt_laldK (n := 1) 0 (by decide) S hF hP (hlt 36 (by decide)) rfl (by decide) dL_law_1466 ?_
    refine lv_iload hx hb dL_law_1467 (lv_at hl 0 rfl) ?_
    refine lv_if_eq (tgt := 1476) hx hb dL_law_1469 (by decide) (fun c5 => ?_) (fun c5 => ?_)
    · refine lv_lconst (v := 0) hx hb dL_law_1476 (by decide) ?_
      refine W.lcmp hx hb dL_law_1477 ?_
      refine lv_if_eq (tgt := 1483) hx hb dL_law_1478 (by decide) (fun _ => ?_) (fun c9 => absurd (ck6 c4 c5) c9)
      refine lv_goto (tgt := 2158) hx hb dL_law_1483 (by decide) ?_
      refine W.widen (k := cells + 2) (n := slots + 12) (by omega) (by omega) ?_
      exact kk _ _ _ hP (lv_sub hl [2, 3, 4, 5, 6, 7] rfl)
    · refine lv_lconst (v := 1) hx hb dL_law_1472 (by decide) ?_
      refine lv_goto (tgt := 1477) hx hb dL_law_1473 (by decide) ?_
      refine W.lcmp hx hb dL_law_1477 ?_
      refine lv_if_eq (tgt := 1483) hx hb dL_law_1478 (by decide) (fun _ => ?_) (fun c9 => absurd (ck7 c4 c5) c9)
      refine lv_goto (tgt := 2158) hx hb dL_law_1483 (by decide) ?_
      refine W.widen (k := cells + 2) (n := slots + 12) (by omega) (by omega) ?_
      exact kk _ _ _ hP (lv_sub hl [2, 3, 4, 5, 6, 7] rfl)
set_option maxRecDepth 100000 in
set_option maxHeartbeats 4000000 in
theorem k_22 {p : Program} {l : Launch} {e : Env} {s : State} {m : MethodId} {args : Array Value} {below : List Frame} {meth : Method} {c : Code} {Q : State → Prop} {P : Pl} {b L : Nat} {xs : Nat → Int32} {c0 : Cond} {i : Int32} (hst : l.stackTraces = false) (hA : Adr P) (hn : 38 ≤ P.2.2.2.1) (S : CallFix p m c cL_law 10 s args (c0 :: ALLW) RL) (hF : Fx P s) (hX : va_X b L xs s s.heap) (hbl : b < s.heap.size) (hbA : ¬ Ab P.2.2.2.2.1 b) (h1 : vp_in (i + 1) L) (h2 : vp_in (i + 2) L) (h3 : vp_in (i + 3) L) {w w' : Wo} {H : Heap} {locs : List Loc} {cells slots : Nat} {ls : Array Slot} (h : F_K_22 w (xs (Int32.toNatClampNeg (i + 1))) (xs (Int32.toNatClampNeg (i + 2))) (xs (Int32.toNatClampNeg (i + 3))) = some w') (hP : St P s w H locs) (hl : lv_has ls 10 (lvL P b i)) (hc : cells + 2 ≤ room_1.cells) (hs : slots + 12 ≤ room_1.slots)
    (kk : ∀ (H1 : Heap) (locs1 : List Loc) (ls1 : Array Slot), St P s w' H1 locs1 → lv_has ls1 10 (lvL P b i) → W p l e room_1 s m args below meth c H1 locs1 (cells + 2) (slots + 12) Q (F0 m 2158 ls1 [])) : W p l e room_1 s m args below meth c H locs cells slots Q (F0 m 1486 ls []) := by
  have hx := S.1
  have hb := S.2.1
  have hlt : ∀ h, h < 38 → h < P.2.2.2.1 := fun h q => Nat.lt_of_lt_of_le q hn
  unfold F_K_22 at h
  refine lv_aload_n hx hb dL_law_1486 rfl (lv_at hl 4 rfl) ?_
  obtain ⟨q1, hq1, h⟩ := ob h
  refine vu_i hP (vu_V S hF hP (h := 0) (hlt 0 (by decide)) rfl (by decide) rfl (c_X5_singing l P hA (Nat.le_trans (by decide) hn) w hq1) ok_X5_singing ml_L_206 ⟨Nat.le_of_ble_eq_true rfl, Nat.le_of_ble_eq_true rfl⟩ rfl hl.1 rfl (Nat.le_of_ble_eq_true rfl) dL_law_1487 ⟨by omega, by omega⟩) (fun H locs _ hP => ?_)
  refine lv_aload_n hx hb dL_law_1490 rfl (lv_at hl 3 rfl) ?_
  obtain ⟨q2, hq2, h⟩ := ob h
  refine vu_i hP (vu_V S hF hP (h := 26) (hlt 26 (by decide)) rfl (by decide) rfl (c_X6_singing l P hA (Nat.le_trans (by decide) hn) w hq2) ok_X6_singing ml_L_209 ⟨Nat.le_of_ble_eq_true rfl, Nat.le_of_ble_eq_true rfl⟩ rfl hl.1 rfl (Nat.le_of_ble_eq_true rfl) dL_law_1491 ⟨by omega, by omega⟩) (fun H locs _ hP => ?_)
  obtain ⟨ck3, h⟩ := chk h
  refine lv_icmp_eq (tgt := 2158) hx hb dL_law_1494 (by decide) (fun _ => ?_) (fun c9 => absurd ck3 c9)
  refine W.widen (k := cells + 2) (n := slots + 12) (by omega) (by omega) ?_
  obtain rfl := Option.some.inj h
  exact kk _ _ _ hP (lv_sub hl [0, 1, 2, 3, 4, 5] rfl)
set_option maxRecDepth 100000 in
set_option maxHeartbeats 4000000 in
theorem k_23 {p : Program} {l : Launch} {e : Env} {s : State} {m : MethodId} {args : Array Value} {below : List Frame} {meth : Method} {c : Code} {Q : State → Prop} {P : Pl} {b L : Nat} {xs : Nat → Int32} {c0 : Cond} {i : Int32} (hst : l.stackTraces = false) (hA : Adr P) (hn : 38 ≤ P.2.2.2.1) (S : CallFix p m c cL_law 10 s args (c0 :: ALLW) RL) (hF : Fx P s) (hX : va_X b L xs s s.heap) (hbl : b < s.heap.size) (hbA : ¬ Ab P.2.2.2.2.1 b) (h1 : vp_in (i + 1) L) (h2 : vp_in (i + 2) L) (h3 : vp_in (i + 3) L) {w w' : Wo} {H : Heap} {locs : List Loc} {cells slots : Nat} {ls : Array Slot} (h : F_K_23 w (xs (Int32.toNatClampNeg (i + 1))) (xs (Int32.toNatClampNeg (i + 2))) (xs (Int32.toNatClampNeg (i + 3))) = some w') (hP : St P s w H locs) (hl : lv_has ls 10 (lvL P b i)) (hc : cells + 2 ≤ room_1.cells) (hs : slots + 12 ≤ room_1.slots)
    (kk : ∀ (H1 : Heap) (locs1 : List Loc) (ls1 : Array Slot), St P s w' H1 locs1 → lv_has ls1 10 (lvL P b i) → W p l e room_1 s m args below meth c H1 locs1 (cells + 2) (slots + 12) Q (F0 m 2158 ls1 [])) : W p l e room_1 s m args below meth c H locs cells slots Q (F0 m 1499 ls []) := by
  have hx := S.1
  have hb := S.2.1
  have hlt : ∀ h, h < 38 → h < P.2.2.2.1 := fun h q => Nat.lt_of_lt_of_le q hn
  unfold F_K_23 at h
  refine lv_aload_n hx hb dL_law_1499 rfl (lv_at hl 4 rfl) ?_
  refine lv_aload_n hx hb dL_law_1500 rfl (lv_at hl 5 rfl) ?_
  refine lv_iload hx hb dL_law_1501 (lv_at hl 0 rfl) ?_
  refine lv_iconst (v := 1) hx hb dL_law_1503 (by decide) ?_
  refine lv_iadd hx hb dL_law_1504 ?_
  refine va_sld hx hb hX hbl hbA hP.2 h1 dL_law_1505 ?_
  refine lv_aload_n hx hb dL_law_1506 rfl (lv_at hl 2 rfl) ?_
  obtain ⟨q1, hq1, h⟩ := ob h
  refine vu_SW S hF hP (c_L_ranked l P hA hn hst (xs (Int32.toNatClampNeg (i + 1))) w hq1) ok_L_ranked ml_L_210 ⟨Nat.le_of_ble_eq_true rfl, Nat.le_of_ble_eq_true rfl⟩ rfl hl.1 rfl (Nat.le_of_ble_eq_true rfl) dL_law_1507 ⟨by omega, by omega⟩ (fun H locs hP => ?_)
  refine lv_istore (lv' := [(6, .int q1.1), (5, .int i), (4, .ref (P.2.1 37)), (3, .ref (P.2.1 36)), (2, .ref (P.2.1 26)), (1, .ref (P.2.1 0)), (0, .ref b)]) hx hb dL_law_1510 hl (by decide) rfl (fun ls hl => ?_)
  refine lv_aload_n hx hb dL_law_1512 rfl (lv_at hl 4 rfl) ?_
  refine lv_aload_n hx hb dL_law_1513 rfl (lv_at hl 6 rfl) ?_
  refine lv_iload hx hb dL_law_1514 (lv_at hl 1 rfl) ?_
  refine lv_iconst (v := 1) hx hb dL_law_1516 (by decide) ?_
  refine lv_iadd hx hb dL_law_1517 ?_
  refine va_sld hx hb hX hbl hbA hP.2 h1 dL_law_1518 ?_
  obtain ⟨q2, hq2, h⟩ := ob h
  refine vu_i hP (vu_V S hF hP (h := 26) (hlt 26 (by decide)) rfl (by decide) rfl (c_X6_ranked l P hA (Nat.le_trans (by decide) hn) q1.2 (xs (Int32.toNatClampNeg (i + 1))) hq2) ok_X6_ranked ml_L_212 ⟨Nat.le_of_ble_eq_true rfl, Nat.le_of_ble_eq_true rfl⟩ rfl hl.1 rfl (Nat.le_of_ble_eq_true rfl) dL_law_1519 ⟨by omega, by omega⟩) (fun H locs _ hP => ?_)
  refine lv_istore (lv' := [(7, .int q2.1), (6, .int q1.1), (5, .int i), (4, .ref (P.2.1 37)), (3, .ref (P.2.1 36)), (2, .ref (P.2.1 26)), (1, .ref (P.2.1 0)), (0, .ref b)]) hx hb dL_law_1522 hl (by decide) rfl (fun ls hl => ?_)
  refine lv_aload_n hx hb dL_law_1524 rfl (lv_at hl 5 rfl) ?_
  refine vu_i hP (vu_V S hF hP (h := 26) (hlt 26 (by decide)) rfl (by decide) rfl (c_X6_thrown l P hA (Nat.le_trans (by decide) hn) q2.2) ok_X6_thrown ml_L_132 ⟨Nat.le_of_ble_eq_true rfl, Nat.le_of_ble_eq_true rfl⟩ rfl hl.1 rfl (Nat.le_of_ble_eq_true rfl) dL_law_1525 ⟨by omega, by omega⟩) (fun H locs _ hP => ?_)
  refine lv_iload hx hb dL_law_1528 (lv_at hl 1 rfl) ?_
  obtain ⟨ck3, h⟩ := chk h
  refine lv_icmp_eq (tgt := 1535) hx hb dL_law_1530 (by decide) (fun _ => ?_) (fun c9 => absurd ck3 c9)
  refine lv_iload hx hb dL_law_1535 (lv_at hl 1 rfl) ?_
  obtain ⟨ck5, h⟩ := chk h
  obtain rfl := Option.some.inj h
  refine lv_if_ne (tgt := 1552) hx hb dL_law_1537 (by decide) (fun c4 => ?_) (fun c4 => ?_)
  · refine lv_goto (tgt := 2158) hx hb dL_law_1552 (by decide) ?_
    refine W.widen (k := cells + 2) (n := slots + 12) (by omega) (by omega) ?_
    exact kk _ _ _ hP (lv_sub hl [2, 3, 4, 5, 6, 7] rfl)
  · refine lv_aload_n hx hb dL_law_1540 rfl (lv_at hl 4 rfl) ?_
    refine lv_iconst (v := 0) hx hb dL_law_1541 (by decide) ?_
    refine vt_laldK (n := 1) 0 (by decide) S hF hP (hlt 36 (by decide)) rfl (by decide) dL_law_1542 ?_
    refine lv_iload hx hb dL_law_1543 (lv_at hl 0 rfl) ?_
    refine lv_i2l hx hb dL_law_1545 rfl ?_
    refine W.lcmp hx hb dL_law_1546 ?_
    refine lv_if_eq (tgt := 1552) hx hb dL_law_1547 (by decide) (fun _ => ?_) (fun c9 => absurd (ck5 c4) c9)
    refine lv_goto (tgt := 2158) hx hb dL_law_1552 (by decide) ?_
    refine W.widen (k := cells + 2) (n := slots + 12) (by omega) (by omega) ?_
    exact kk _ _ _ hP (lv_sub hl [2, 3, 4, 5, 6, 7] rfl)
set_option maxRecDepth 100000 in
set_option maxHeartbeats 4000000 in
theorem k_24 {p : Program} {l : Launch} {e : Env} {s : State} {m : MethodId} {args : Array Value} {below : List Frame} {meth : Method} {c : Code} {Q : State → Prop} {P : Pl} {b L : Nat} {xs : Nat → Int32} {c0 : Cond} {i : Int32} (hst : l.stackTraces = false) (hA : Adr P) (hn : 38 ≤ P.2.2.2.1) (S : CallFix p m c cL_law 10 s args (c0 :: ALLW) RL) (hF : Fx P s) (hX : va_X b L xs s s.heap) (hbl : b < s.heap.size) (hbA : ¬ Ab P.2.2.2.2.1 b) (h1 : vp_in (i + 1) L) (h2 : vp_in (i + 2) L) (h3 : vp_in (i + 3) L) {w w' : Wo} {H : Heap} {locs : List Loc} {cells slots : Nat} {ls : Array Slot} (h : F_K_24 w (xs (Int32.toNatClampNeg (i + 1))) (xs (Int32.toNatClampNeg (i + 2))) (xs (Int32.toNatClampNeg (i + 3))) = some w') (hP : St P s w H locs) (hl : lv_has ls 10 (lvL P b i)) (hc : cells + 2 ≤ room_1.cells) (hs : slots + 12 ≤ room_1.slots)
    (kk : ∀ (H1 : Heap) (locs1 : List Loc) (ls1 : Array Slot), St P s w' H1 locs1 → lv_has ls1 10 (lvL P b i) → W p l e room_1 s m args below meth c H1 locs1 (cells + 2) (slots + 12) Q (F0 m 2158 ls1 [])) : W p l e room_1 s m args below meth c H locs cells slots Q (F0 m 1555 ls []) := by
  have hx := S.1
  have hb := S.2.1
  have hlt : ∀ h, h < 38 → h < P.2.2.2.1 := fun h q => Nat.lt_of_lt_of_le q hn
  unfold F_K_24 at h
  refine lv_aload_n hx hb dL_law_1555 rfl (lv_at hl 4 rfl) ?_
  obtain ⟨q1, hq1, h⟩ := ob h
  refine vu_i hP (vu_V S hF hP (h := 0) (hlt 0 (by decide)) rfl (by decide) rfl (c_X5_text l P hA (Nat.le_trans (by decide) hn) w hq1) ok_X5_text ml_L_213 ⟨Nat.le_of_ble_eq_true rfl, Nat.le_of_ble_eq_true rfl⟩ rfl hl.1 rfl (Nat.le_of_ble_eq_true rfl) dL_law_1556 ⟨by omega, by omega⟩) (fun H locs _ hP => ?_)
  refine lv_aload_n hx hb dL_law_1559 rfl (lv_at hl 3 rfl) ?_
  obtain ⟨q2, hq2, h⟩ := ob h
  refine vu_i hP (vu_V S hF hP (h := 26) (hlt 26 (by decide)) rfl (by decide) rfl (c_X6_text l P hA (Nat.le_trans (by decide) hn) q1.2 hq2) ok_X6_text ml_L_216 ⟨Nat.le_of_ble_eq_true rfl, Nat.le_of_ble_eq_true rfl⟩ rfl hl.1 rfl (Nat.le_of_ble_eq_true rfl) dL_law_1560 ⟨by omega, by omega⟩) (fun H locs _ hP => ?_)
  obtain ⟨ck3, h⟩ := chk h
  refine lv_icmp_eq (tgt := 2158) hx hb dL_law_1563 (by decide) (fun _ => ?_) (fun c9 => absurd ck3 c9)
  refine W.widen (k := cells + 2) (n := slots + 12) (by omega) (by omega) ?_
  obtain rfl := Option.some.inj h
  exact kk _ _ _ hP (lv_sub hl [0, 1, 2, 3, 4, 5] rfl)
set_option maxRecDepth 100000 in
set_option maxHeartbeats 4000000 in
theorem k_25 {p : Program} {l : Launch} {e : Env} {s : State} {m : MethodId} {args : Array Value} {below : List Frame} {meth : Method} {c : Code} {Q : State → Prop} {P : Pl} {b L : Nat} {xs : Nat → Int32} {c0 : Cond} {i : Int32} (hst : l.stackTraces = false) (hA : Adr P) (hn : 38 ≤ P.2.2.2.1) (S : CallFix p m c cL_law 10 s args (c0 :: ALLW) RL) (hF : Fx P s) (hX : va_X b L xs s s.heap) (hbl : b < s.heap.size) (hbA : ¬ Ab P.2.2.2.2.1 b) (h1 : vp_in (i + 1) L) (h2 : vp_in (i + 2) L) (h3 : vp_in (i + 3) L) {w w' : Wo} {H : Heap} {locs : List Loc} {cells slots : Nat} {ls : Array Slot} (h : F_K_25 w (xs (Int32.toNatClampNeg (i + 1))) (xs (Int32.toNatClampNeg (i + 2))) (xs (Int32.toNatClampNeg (i + 3))) = some w') (hP : St P s w H locs) (hl : lv_has ls 10 (lvL P b i)) (hc : cells + 2 ≤ room_1.cells) (hs : slots + 12 ≤ room_1.slots)
    (kk : ∀ (H1 : Heap) (locs1 : List Loc) (ls1 : Array Slot), St P s w' H1 locs1 → lv_has ls1 10 (lvL P b i) → W p l e room_1 s m args below meth c H1 locs1 (cells + 2) (slots + 12) Q (F0 m 2158 ls1 [])) : W p l e room_1 s m args below meth c H locs cells slots Q (F0 m 1568 ls []) := by
  have hx := S.1
  have hb := S.2.1
  have hlt : ∀ h, h < 38 → h < P.2.2.2.1 := fun h q => Nat.lt_of_lt_of_le q hn
  unfold F_K_25 at h
  refine lv_aload_n hx hb dL_law_1568 rfl (lv_at hl 4 rfl) ?_
  obtain ⟨q1, hq1, h⟩ := ob h
  refine vu_i hP (vu_V S hF hP (h := 0) (hlt 0 (by decide)) rfl (by decide) rfl (c_X5_goalText l P hA (Nat.le_trans (by decide) hn) w hq1) ok_X5_goalText ml_L_217 ⟨Nat.le_of_ble_eq_true rfl, Nat.le_of_ble_eq_true rfl⟩ rfl hl.1 rfl (Nat.le_of_ble_eq_true rfl) dL_law_1569 ⟨by omega, by omega⟩) (fun H locs _ hP => ?_)
  refine lv_aload_n hx hb dL_law_1572 rfl (lv_at hl 3 rfl) ?_
  obtain ⟨q2, hq2, h⟩ := ob h
  refine vu_i hP (vu_V S hF hP (h := 26) (hlt 26 (by decide)) rfl (by decide) rfl (c_X6_goalText l P hA (Nat.le_trans (by decide) hn) q1.2 hq2) ok_X6_goalText ml_L_220 ⟨Nat.le_of_ble_eq_true rfl, Nat.le_of_ble_eq_true rfl⟩ rfl hl.1 rfl (Nat.le_of_ble_eq_true rfl) dL_law_1573 ⟨by omega, by omega⟩) (fun H locs _ hP => ?_)
  obtain ⟨ck3, h⟩ := chk h
  refine lv_icmp_eq (tgt := 2158) hx hb dL_law_1576 (by decide) (fun _ => ?_) (fun c9 => absurd ck3 c9)
  refine W.widen (k := cells + 2) (n := slots + 12) (by omega) (by omega) ?_
  obtain rfl := Option.some.inj h
  exact kk _ _ _ hP (lv_sub hl [0, 1, 2, 3, 4, 5] rfl)
set_option maxRecDepth 100000 in
set_option maxHeartbeats 4000000 in
theorem k_26 {p : Program} {l : Launch} {e : Env} {s : State} {m : MethodId} {args : Array Value} {below : List Frame} {meth : Method} {c : Code} {Q : State → Prop} {P : Pl} {b L : Nat} {xs : Nat → Int32} {c0 : Cond} {i : Int32} (hst : l.stackTraces = false) (hA : Adr P) (hn : 38 ≤ P.2.2.2.1) (S : CallFix p m c cL_law 10 s args (c0 :: ALLW) RL) (hF : Fx P s) (hX : va_X b L xs s s.heap) (hbl : b < s.heap.size) (hbA : ¬ Ab P.2.2.2.2.1 b) (h1 : vp_in (i + 1) L) (h2 : vp_in (i + 2) L) (h3 : vp_in (i + 3) L) {w w' : Wo} {H : Heap} {locs : List Loc} {cells slots : Nat} {ls : Array Slot} (h : F_K_26 w (xs (Int32.toNatClampNeg (i + 1))) (xs (Int32.toNatClampNeg (i + 2))) (xs (Int32.toNatClampNeg (i + 3))) = some w') (hP : St P s w H locs) (hl : lv_has ls 10 (lvL P b i)) (hc : cells + 2 ≤ room_1.cells) (hs : slots + 12 ≤ room_1.slots)
    (kk : ∀ (H1 : Heap) (locs1 : List Loc) (ls1 : Array Slot), St P s w' H1 locs1 → lv_has ls1 10 (lvL P b i) → W p l e room_1 s m args below meth c H1 locs1 (cells + 2) (slots + 12) Q (F0 m 2158 ls1 [])) : W p l e room_1 s m args below meth c H locs cells slots Q (F0 m 1581 ls []) := by
  have hx := S.1
  have hb := S.2.1
  have hlt : ∀ h, h < 38 → h < P.2.2.2.1 := fun h q => Nat.lt_of_lt_of_le q hn
  unfold F_K_26 at h
  refine lv_aload_n hx hb dL_law_1581 rfl (lv_at hl 4 rfl) ?_
  refine lv_aload_n hx hb dL_law_1582 rfl (lv_at hl 5 rfl) ?_
  refine lv_iload hx hb dL_law_1583 (lv_at hl 0 rfl) ?_
  refine lv_iconst (v := 1) hx hb dL_law_1585 (by decide) ?_
  refine lv_iadd hx hb dL_law_1586 ?_
  refine va_sld hx hb hX hbl hbA hP.2 h1 dL_law_1587 ?_
  refine lv_aload_n hx hb dL_law_1588 rfl (lv_at hl 2 rfl) ?_
  obtain ⟨q1, hq1, h⟩ := ob h
  refine vu_SW S hF hP (c_L_lineText l P hA hn hst (xs (Int32.toNatClampNeg (i + 1))) w hq1) ok_L_lineText ml_L_221 ⟨Nat.le_of_ble_eq_true rfl, Nat.le_of_ble_eq_true rfl⟩ rfl hl.1 rfl (Nat.le_of_ble_eq_true rfl) dL_law_1589 ⟨by omega, by omega⟩ (fun H locs hP => ?_)
  refine lv_istore (lv' := [(6, .int q1.1), (5, .int i), (4, .ref (P.2.1 37)), (3, .ref (P.2.1 36)), (2, .ref (P.2.1 26)), (1, .ref (P.2.1 0)), (0, .ref b)]) hx hb dL_law_1592 hl (by decide) rfl (fun ls hl => ?_)
  refine lv_aload_n hx hb dL_law_1594 rfl (lv_at hl 4 rfl) ?_
  refine lv_aload_n hx hb dL_law_1595 rfl (lv_at hl 6 rfl) ?_
  refine lv_iload hx hb dL_law_1596 (lv_at hl 1 rfl) ?_
  refine lv_iconst (v := 1) hx hb dL_law_1598 (by decide) ?_
  refine lv_iadd hx hb dL_law_1599 ?_
  refine va_sld hx hb hX hbl hbA hP.2 h1 dL_law_1600 ?_
  obtain ⟨q2, hq2, h⟩ := ob h
  refine vu_i hP (vu_V S hF hP (h := 26) (hlt 26 (by decide)) rfl (by decide) rfl (c_X6_lineText l P hA (Nat.le_trans (by decide) hn) q1.2 (xs (Int32.toNatClampNeg (i + 1))) hq2) ok_X6_lineText ml_L_223 ⟨Nat.le_of_ble_eq_true rfl, Nat.le_of_ble_eq_true rfl⟩ rfl hl.1 rfl (Nat.le_of_ble_eq_true rfl) dL_law_1601 ⟨by omega, by omega⟩) (fun H locs _ hP => ?_)
  refine lv_istore (lv' := [(7, .int q2.1), (6, .int q1.1), (5, .int i), (4, .ref (P.2.1 37)), (3, .ref (P.2.1 36)), (2, .ref (P.2.1 26)), (1, .ref (P.2.1 0)), (0, .ref b)]) hx hb dL_law_1604 hl (by decide) rfl (fun ls hl => ?_)
  refine lv_aload_n hx hb dL_law_1606 rfl (lv_at hl 5 rfl) ?_
  refine vu_i hP (vu_V S hF hP (h := 26) (hlt 26 (by decide)) rfl (by decide) rfl (c_X6_thrown l P hA (Nat.le_trans (by decide) hn) q2.2) ok_X6_thrown ml_L_132 ⟨Nat.le_of_ble_eq_true rfl, Nat.le_of_ble_eq_true rfl⟩ rfl hl.1 rfl (Nat.le_of_ble_eq_true rfl) dL_law_1607 ⟨by omega, by omega⟩) (fun H locs _ hP => ?_)
  refine lv_iload hx hb dL_law_1610 (lv_at hl 1 rfl) ?_
  obtain ⟨ck3, h⟩ := chk h
  refine lv_icmp_eq (tgt := 1617) hx hb dL_law_1612 (by decide) (fun _ => ?_) (fun c9 => absurd ck3 c9)
  refine lv_iload hx hb dL_law_1617 (lv_at hl 1 rfl) ?_
  obtain ⟨ck5, h⟩ := chk h
  obtain rfl := Option.some.inj h
  refine lv_if_ne (tgt := 1634) hx hb dL_law_1619 (by decide) (fun c4 => ?_) (fun c4 => ?_)
  · refine lv_goto (tgt := 2158) hx hb dL_law_1634 (by decide) ?_
    refine W.widen (k := cells + 2) (n := slots + 12) (by omega) (by omega) ?_
    exact kk _ _ _ hP (lv_sub hl [2, 3, 4, 5, 6, 7] rfl)
  · refine lv_aload_n hx hb dL_law_1622 rfl (lv_at hl 4 rfl) ?_
    refine lv_iconst (v := 0) hx hb dL_law_1623 (by decide) ?_
    refine vt_laldK (n := 1) 0 (by decide) S hF hP (hlt 36 (by decide)) rfl (by decide) dL_law_1624 ?_
    refine lv_iload hx hb dL_law_1625 (lv_at hl 0 rfl) ?_
    refine lv_i2l hx hb dL_law_1627 rfl ?_
    refine W.lcmp hx hb dL_law_1628 ?_
    refine lv_if_eq (tgt := 1634) hx hb dL_law_1629 (by decide) (fun _ => ?_) (fun c9 => absurd (ck5 c4) c9)
    refine lv_goto (tgt := 2158) hx hb dL_law_1634 (by decide) ?_
    refine W.widen (k := cells + 2) (n := slots + 12) (by omega) (by omega) ?_
    exact kk _ _ _ hP (lv_sub hl [2, 3, 4, 5, 6, 7] rfl)
set_option maxRecDepth 100000 in
set_option maxHeartbeats 4000000 in
theorem k_27 {p : Program} {l : Launch} {e : Env} {s : State} {m : MethodId} {args : Array Value} {below : List Frame} {meth : Method} {c : Code} {Q : State → Prop} {P : Pl} {b L : Nat} {xs : Nat → Int32} {c0 : Cond} {i : Int32} (hst : l.stackTraces = false) (hA : Adr P) (hn : 38 ≤ P.2.2.2.1) (S : CallFix p m c cL_law 10 s args (c0 :: ALLW) RL) (hF : Fx P s) (hX : va_X b L xs s s.heap) (hbl : b < s.heap.size) (hbA : ¬ Ab P.2.2.2.2.1 b) (h1 : vp_in (i + 1) L) (h2 : vp_in (i + 2) L) (h3 : vp_in (i + 3) L) {w w' : Wo} {H : Heap} {locs : List Loc} {cells slots : Nat} {ls : Array Slot} (h : F_K_27 w (xs (Int32.toNatClampNeg (i + 1))) (xs (Int32.toNatClampNeg (i + 2))) (xs (Int32.toNatClampNeg (i + 3))) = some w') (hP : St P s w H locs) (hl : lv_has ls 10 (lvL P b i)) (hc : cells + 2 ≤ room_1.cells) (hs : slots + 12 ≤ room_1.slots)
    (kk : ∀ (H1 : Heap) (locs1 : List Loc) (ls1 : Array Slot), St P s w' H1 locs1 → lv_has ls1 10 (lvL P b i) → W p l e room_1 s m args below meth c H1 locs1 (cells + 2) (slots + 12) Q (F0 m 2158 ls1 [])) : W p l e room_1 s m args below meth c H locs cells slots Q (F0 m 1637 ls []) := by
  have hx := S.1
  have hb := S.2.1
  have hlt : ∀ h, h < 38 → h < P.2.2.2.1 := fun h q => Nat.lt_of_lt_of_le q hn
  unfold F_K_27 at h
  refine lv_aload_n hx hb dL_law_1637 rfl (lv_at hl 4 rfl) ?_
  refine lv_aload_n hx hb dL_law_1638 rfl (lv_at hl 5 rfl) ?_
  refine lv_iload hx hb dL_law_1639 (lv_at hl 0 rfl) ?_
  refine lv_iconst (v := 1) hx hb dL_law_1641 (by decide) ?_
  refine lv_iadd hx hb dL_law_1642 ?_
  refine va_sld hx hb hX hbl hbA hP.2 h1 dL_law_1643 ?_
  refine lv_aload_n hx hb dL_law_1644 rfl (lv_at hl 2 rfl) ?_
  obtain ⟨q1, hq1, h⟩ := ob h
  refine vu_SW S hF hP (c_L_character l P hA hn hst (xs (Int32.toNatClampNeg (i + 1))) w hq1) ok_L_character ml_L_224 ⟨Nat.le_of_ble_eq_true rfl, Nat.le_of_ble_eq_true rfl⟩ rfl hl.1 rfl (Nat.le_of_ble_eq_true rfl) dL_law_1645 ⟨by omega, by omega⟩ (fun H locs hP => ?_)
  refine lv_istore (lv' := [(6, .int q1.1), (5, .int i), (4, .ref (P.2.1 37)), (3, .ref (P.2.1 36)), (2, .ref (P.2.1 26)), (1, .ref (P.2.1 0)), (0, .ref b)]) hx hb dL_law_1648 hl (by decide) rfl (fun ls hl => ?_)
  refine lv_aload_n hx hb dL_law_1650 rfl (lv_at hl 4 rfl) ?_
  refine lv_aload_n hx hb dL_law_1651 rfl (lv_at hl 6 rfl) ?_
  refine lv_iload hx hb dL_law_1652 (lv_at hl 1 rfl) ?_
  refine lv_iconst (v := 1) hx hb dL_law_1654 (by decide) ?_
  refine lv_iadd hx hb dL_law_1655 ?_
  refine va_sld hx hb hX hbl hbA hP.2 h1 dL_law_1656 ?_
  obtain ⟨q2, hq2, h⟩ := ob h
  refine vu_i hP (vu_V S hF hP (h := 26) (hlt 26 (by decide)) rfl (by decide) rfl (c_X6_character l P hA (Nat.le_trans (by decide) hn) q1.2 (xs (Int32.toNatClampNeg (i + 1))) hq2) ok_X6_character ml_L_226 ⟨Nat.le_of_ble_eq_true rfl, Nat.le_of_ble_eq_true rfl⟩ rfl hl.1 rfl (Nat.le_of_ble_eq_true rfl) dL_law_1657 ⟨by omega, by omega⟩) (fun H locs _ hP => ?_)
  refine lv_istore (lv' := [(7, .int q2.1), (6, .int q1.1), (5, .int i), (4, .ref (P.2.1 37)), (3, .ref (P.2.1 36)), (2, .ref (P.2.1 26)), (1, .ref (P.2.1 0)), (0, .ref b)]) hx hb dL_law_1660 hl (by decide) rfl (fun ls hl => ?_)
  refine lv_aload_n hx hb dL_law_1662 rfl (lv_at hl 5 rfl) ?_
  refine vu_i hP (vu_V S hF hP (h := 26) (hlt 26 (by decide)) rfl (by decide) rfl (c_X6_thrown l P hA (Nat.le_trans (by decide) hn) q2.2) ok_X6_thrown ml_L_132 ⟨Nat.le_of_ble_eq_true rfl, Nat.le_of_ble_eq_true rfl⟩ rfl hl.1 rfl (Nat.le_of_ble_eq_true rfl) dL_law_1663 ⟨by omega, by omega⟩) (fun H locs _ hP => ?_)
  refine lv_iload hx hb dL_law_1666 (lv_at hl 1 rfl) ?_
  obtain ⟨ck3, h⟩ := chk h
  refine lv_icmp_eq (tgt := 1673) hx hb dL_law_1668 (by decide) (fun _ => ?_) (fun c9 => absurd ck3 c9)
  refine lv_iload hx hb dL_law_1673 (lv_at hl 1 rfl) ?_
  obtain ⟨ck5, h⟩ := chk h
  obtain rfl := Option.some.inj h
  refine lv_if_ne (tgt := 1690) hx hb dL_law_1675 (by decide) (fun c4 => ?_) (fun c4 => ?_)
  · refine lv_goto (tgt := 2158) hx hb dL_law_1690 (by decide) ?_
    refine W.widen (k := cells + 2) (n := slots + 12) (by omega) (by omega) ?_
    exact kk _ _ _ hP (lv_sub hl [2, 3, 4, 5, 6, 7] rfl)
  · refine lv_aload_n hx hb dL_law_1678 rfl (lv_at hl 4 rfl) ?_
    refine lv_iconst (v := 0) hx hb dL_law_1679 (by decide) ?_
    refine vt_laldK (n := 1) 0 (by decide) S hF hP (hlt 36 (by decide)) rfl (by decide) dL_law_1680 ?_
    refine lv_iload hx hb dL_law_1681 (lv_at hl 0 rfl) ?_
    refine lv_i2l hx hb dL_law_1683 rfl ?_
    refine W.lcmp hx hb dL_law_1684 ?_
    refine lv_if_eq (tgt := 1690) hx hb dL_law_1685 (by decide) (fun _ => ?_) (fun c9 => absurd (ck5 c4) c9)
    refine lv_goto (tgt := 2158) hx hb dL_law_1690 (by decide) ?_
    refine W.widen (k := cells + 2) (n := slots + 12) (by omega) (by omega) ?_
    exact kk _ _ _ hP (lv_sub hl [2, 3, 4, 5, 6, 7] rfl)
set_option maxRecDepth 100000 in
set_option maxHeartbeats 4000000 in
theorem k_28 {p : Program} {l : Launch} {e : Env} {s : State} {m : MethodId} {args : Array Value} {below : List Frame} {meth : Method} {c : Code} {Q : State → Prop} {P : Pl} {b L : Nat} {xs : Nat → Int32} {c0 : Cond} {i : Int32} (hst : l.stackTraces = false) (hA : Adr P) (hn : 38 ≤ P.2.2.2.1) (S : CallFix p m c cL_law 10 s args (c0 :: ALLW) RL) (hF : Fx P s) (hX : va_X b L xs s s.heap) (hbl : b < s.heap.size) (hbA : ¬ Ab P.2.2.2.2.1 b) (h1 : vp_in (i + 1) L) (h2 : vp_in (i + 2) L) (h3 : vp_in (i + 3) L) {w w' : Wo} {H : Heap} {locs : List Loc} {cells slots : Nat} {ls : Array Slot} (h : F_K_28 w (xs (Int32.toNatClampNeg (i + 1))) (xs (Int32.toNatClampNeg (i + 2))) (xs (Int32.toNatClampNeg (i + 3))) = some w') (hP : St P s w H locs) (hl : lv_has ls 10 (lvL P b i)) (hc : cells + 2 ≤ room_1.cells) (hs : slots + 12 ≤ room_1.slots)
    (kk : ∀ (H1 : Heap) (locs1 : List Loc) (ls1 : Array Slot), St P s w' H1 locs1 → lv_has ls1 10 (lvL P b i) → W p l e room_1 s m args below meth c H1 locs1 (cells + 2) (slots + 12) Q (F0 m 2158 ls1 [])) : W p l e room_1 s m args below meth c H locs cells slots Q (F0 m 1693 ls []) := by
  have hx := S.1
  have hb := S.2.1
  have hlt : ∀ h, h < 38 → h < P.2.2.2.1 := fun h q => Nat.lt_of_lt_of_le q hn
  unfold F_K_28 at h
  refine lv_aload_n hx hb dL_law_1693 rfl (lv_at hl 4 rfl) ?_
  refine lv_aload_n hx hb dL_law_1694 rfl (lv_at hl 5 rfl) ?_
  refine lv_iload hx hb dL_law_1695 (lv_at hl 0 rfl) ?_
  refine lv_iconst (v := 1) hx hb dL_law_1697 (by decide) ?_
  refine lv_iadd hx hb dL_law_1698 ?_
  refine va_sld hx hb hX hbl hbA hP.2 h1 dL_law_1699 ?_
  refine lv_i2c hx hb dL_law_1700 rfl ?_
  refine lv_aload_n hx hb dL_law_1701 rfl (lv_at hl 2 rfl) ?_
  obtain ⟨q1, hq1, h⟩ := ob h
  refine vu_SW S hF hP (c_L_append l P hA hn hst (ji2c (xs (Int32.toNatClampNeg (i + 1)))) w hq1) ok_L_append ml_L_227 ⟨Nat.le_of_ble_eq_true rfl, Nat.le_of_ble_eq_true rfl⟩ rfl hl.1 rfl (Nat.le_of_ble_eq_true rfl) dL_law_1702 ⟨by omega, by omega⟩ (fun H locs hP => ?_)
  refine lv_istore (lv' := [(6, .int q1.1), (5, .int i), (4, .ref (P.2.1 37)), (3, .ref (P.2.1 36)), (2, .ref (P.2.1 26)), (1, .ref (P.2.1 0)), (0, .ref b)]) hx hb dL_law_1705 hl (by decide) rfl (fun ls hl => ?_)
  refine lv_aload_n hx hb dL_law_1707 rfl (lv_at hl 4 rfl) ?_
  refine lv_aload_n hx hb dL_law_1708 rfl (lv_at hl 6 rfl) ?_
  refine lv_iload hx hb dL_law_1709 (lv_at hl 1 rfl) ?_
  refine lv_iconst (v := 1) hx hb dL_law_1711 (by decide) ?_
  refine lv_iadd hx hb dL_law_1712 ?_
  refine va_sld hx hb hX hbl hbA hP.2 h1 dL_law_1713 ?_
  refine lv_i2c hx hb dL_law_1714 rfl ?_
  obtain ⟨q2, hq2, h⟩ := ob h
  refine vu_i hP (vu_V S hF hP (h := 26) (hlt 26 (by decide)) rfl (by decide) rfl (c_X6_append l P hA (Nat.le_trans (by decide) hn) q1.2 (ji2c (xs (Int32.toNatClampNeg (i + 1)))) hq2) ok_X6_append ml_L_230 ⟨Nat.le_of_ble_eq_true rfl, Nat.le_of_ble_eq_true rfl⟩ rfl hl.1 rfl (Nat.le_of_ble_eq_true rfl) dL_law_1715 ⟨by omega, by omega⟩) (fun H locs _ hP => ?_)
  refine lv_istore (lv' := [(7, .int q2.1), (6, .int q1.1), (5, .int i), (4, .ref (P.2.1 37)), (3, .ref (P.2.1 36)), (2, .ref (P.2.1 26)), (1, .ref (P.2.1 0)), (0, .ref b)]) hx hb dL_law_1718 hl (by decide) rfl (fun ls hl => ?_)
  refine lv_aload_n hx hb dL_law_1720 rfl (lv_at hl 5 rfl) ?_
  refine vu_i hP (vu_V S hF hP (h := 26) (hlt 26 (by decide)) rfl (by decide) rfl (c_X6_thrown l P hA (Nat.le_trans (by decide) hn) q2.2) ok_X6_thrown ml_L_132 ⟨Nat.le_of_ble_eq_true rfl, Nat.le_of_ble_eq_true rfl⟩ rfl hl.1 rfl (Nat.le_of_ble_eq_true rfl) dL_law_1721 ⟨by omega, by omega⟩) (fun H locs _ hP => ?_)
  refine lv_iload hx hb dL_law_1724 (lv_at hl 1 rfl) ?_
  obtain ⟨ck3, h⟩ := chk h
  refine lv_icmp_eq (tgt := 1731) hx hb dL_law_1726 (by decide) (fun _ => ?_) (fun c9 => absurd ck3 c9)
  refine lv_iload hx hb dL_law_1731 (lv_at hl 1 rfl) ?_
  obtain ⟨ck5, h⟩ := chk h
  obtain rfl := Option.some.inj h
  refine lv_if_ne (tgt := 1748) hx hb dL_law_1733 (by decide) (fun c4 => ?_) (fun c4 => ?_)
  · refine lv_goto (tgt := 2158) hx hb dL_law_1748 (by decide) ?_
    refine W.widen (k := cells + 2) (n := slots + 12) (by omega) (by omega) ?_
    exact kk _ _ _ hP (lv_sub hl [2, 3, 4, 5, 6, 7] rfl)
  · refine lv_aload_n hx hb dL_law_1736 rfl (lv_at hl 4 rfl) ?_
    refine lv_iconst (v := 0) hx hb dL_law_1737 (by decide) ?_
    refine vt_laldK (n := 1) 0 (by decide) S hF hP (hlt 36 (by decide)) rfl (by decide) dL_law_1738 ?_
    refine lv_iload hx hb dL_law_1739 (lv_at hl 0 rfl) ?_
    refine lv_i2l hx hb dL_law_1741 rfl ?_
    refine W.lcmp hx hb dL_law_1742 ?_
    refine lv_if_eq (tgt := 1748) hx hb dL_law_1743 (by decide) (fun _ => ?_) (fun c9 => absurd (ck5 c4) c9)
    refine lv_goto (tgt := 2158) hx hb dL_law_1748 (by decide) ?_
    refine W.widen (k := cells + 2) (n := slots + 12) (by omega) (by omega) ?_
    exact kk _ _ _ hP (lv_sub hl [2, 3, 4, 5, 6, 7] rfl)
set_option maxRecDepth 100000 in
set_option maxHeartbeats 4000000 in
theorem k_29 {p : Program} {l : Launch} {e : Env} {s : State} {m : MethodId} {args : Array Value} {below : List Frame} {meth : Method} {c : Code} {Q : State → Prop} {P : Pl} {b L : Nat} {xs : Nat → Int32} {c0 : Cond} {i : Int32} (hst : l.stackTraces = false) (hA : Adr P) (hn : 38 ≤ P.2.2.2.1) (S : CallFix p m c cL_law 10 s args (c0 :: ALLW) RL) (hF : Fx P s) (hX : va_X b L xs s s.heap) (hbl : b < s.heap.size) (hbA : ¬ Ab P.2.2.2.2.1 b) (h1 : vp_in (i + 1) L) (h2 : vp_in (i + 2) L) (h3 : vp_in (i + 3) L) {w w' : Wo} {H : Heap} {locs : List Loc} {cells slots : Nat} {ls : Array Slot} (h : F_K_29 w (xs (Int32.toNatClampNeg (i + 1))) (xs (Int32.toNatClampNeg (i + 2))) (xs (Int32.toNatClampNeg (i + 3))) = some w') (hP : St P s w H locs) (hl : lv_has ls 10 (lvL P b i)) (hc : cells + 2 ≤ room_1.cells) (hs : slots + 12 ≤ room_1.slots)
    (kk : ∀ (H1 : Heap) (locs1 : List Loc) (ls1 : Array Slot), St P s w' H1 locs1 → lv_has ls1 10 (lvL P b i) → W p l e room_1 s m args below meth c H1 locs1 (cells + 2) (slots + 12) Q (F0 m 2158 ls1 [])) : W p l e room_1 s m args below meth c H locs cells slots Q (F0 m 1751 ls []) := by
  have hx := S.1
  have hb := S.2.1
  have hlt : ∀ h, h < 38 → h < P.2.2.2.1 := fun h q => Nat.lt_of_lt_of_le q hn
  unfold F_K_29 at h
  refine lv_aload_n hx hb dL_law_1751 rfl (lv_at hl 4 rfl) ?_
  refine lv_aload_n hx hb dL_law_1752 rfl (lv_at hl 2 rfl) ?_
  obtain ⟨q1, hq1, h⟩ := ob h
  refine vu_SW S hF hP (c_L_run l P hA hn hst w hq1) ok_L_run ml_L_231 ⟨Nat.le_of_ble_eq_true rfl, Nat.le_of_ble_eq_true rfl⟩ rfl hl.1 rfl (Nat.le_of_ble_eq_true rfl) dL_law_1753 ⟨by omega, by omega⟩ (fun H locs hP => ?_)
  refine lv_istore (lv' := [(6, .int q1.1), (5, .int i), (4, .ref (P.2.1 37)), (3, .ref (P.2.1 36)), (2, .ref (P.2.1 26)), (1, .ref (P.2.1 0)), (0, .ref b)]) hx hb dL_law_1756 hl (by decide) rfl (fun ls hl => ?_)
  refine lv_aload_n hx hb dL_law_1758 rfl (lv_at hl 4 rfl) ?_
  obtain ⟨q2, hq2, h⟩ := ob h
  refine vu_i hP (vu_V S hF hP (h := 26) (hlt 26 (by decide)) rfl (by decide) rfl (c_X6_run l P hA (Nat.le_trans (by decide) hn) q1.2 hq2) ok_X6_run ml_L_233 ⟨Nat.le_of_ble_eq_true rfl, Nat.le_of_ble_eq_true rfl⟩ rfl hl.1 rfl (Nat.le_of_ble_eq_true rfl) dL_law_1759 ⟨by omega, by omega⟩) (fun H locs _ hP => ?_)
  refine lv_istore (lv' := [(7, .int q2.1), (6, .int q1.1), (5, .int i), (4, .ref (P.2.1 37)), (3, .ref (P.2.1 36)), (2, .ref (P.2.1 26)), (1, .ref (P.2.1 0)), (0, .ref b)]) hx hb dL_law_1762 hl (by decide) rfl (fun ls hl => ?_)
  refine lv_aload_n hx hb dL_law_1764 rfl (lv_at hl 5 rfl) ?_
  refine vu_i hP (vu_V S hF hP (h := 26) (hlt 26 (by decide)) rfl (by decide) rfl (c_X6_thrown l P hA (Nat.le_trans (by decide) hn) q2.2) ok_X6_thrown ml_L_132 ⟨Nat.le_of_ble_eq_true rfl, Nat.le_of_ble_eq_true rfl⟩ rfl hl.1 rfl (Nat.le_of_ble_eq_true rfl) dL_law_1765 ⟨by omega, by omega⟩) (fun H locs _ hP => ?_)
  refine lv_iload hx hb dL_law_1768 (lv_at hl 1 rfl) ?_
  obtain ⟨ck3, h⟩ := chk h
  refine lv_icmp_eq (tgt := 1775) hx hb dL_law_1770 (by decide) (fun _ => ?_) (fun c9 => absurd ck3 c9)
  refine lv_iload hx hb dL_law_1775 (lv_at hl 1 rfl) ?_
  obtain ⟨ck5, h⟩ := chk h
  obtain rfl := Option.some.inj h
  refine lv_if_ne (tgt := 1792) hx hb dL_law_1777 (by decide) (fun c4 => ?_) (fun c4 => ?_)
  · refine lv_goto (tgt := 2158) hx hb dL_law_1792 (by decide) ?_
    refine W.widen (k := cells + 2) (n := slots + 12) (by omega) (by omega) ?_
    exact kk _ _ _ hP (lv_sub hl [2, 3, 4, 5, 6, 7] rfl)
  · refine lv_aload_n hx hb dL_law_1780 rfl (lv_at hl 4 rfl) ?_
    refine lv_iconst (v := 0) hx hb dL_law_1781 (by decide) ?_
    refine vt_laldK (n := 1) 0 (by decide) S hF hP (hlt 36 (by decide)) rfl (by decide) dL_law_1782 ?_
    refine lv_iload hx hb dL_law_1783 (lv_at hl 0 rfl) ?_
    refine lv_i2l hx hb dL_law_1785 rfl ?_
    refine W.lcmp hx hb dL_law_1786 ?_
    refine lv_if_eq (tgt := 1792) hx hb dL_law_1787 (by decide) (fun _ => ?_) (fun c9 => absurd (ck5 c4) c9)
    refine lv_goto (tgt := 2158) hx hb dL_law_1792 (by decide) ?_
    refine W.widen (k := cells + 2) (n := slots + 12) (by omega) (by omega) ?_
    exact kk _ _ _ hP (lv_sub hl [2, 3, 4, 5, 6, 7] rfl)
set_option maxRecDepth 100000 in
set_option maxHeartbeats 4000000 in
theorem k_30 {p : Program} {l : Launch} {e : Env} {s : State} {m : MethodId} {args : Array Value} {below : List Frame} {meth : Method} {c : Code} {Q : State → Prop} {P : Pl} {b L : Nat} {xs : Nat → Int32} {c0 : Cond} {i : Int32} (hst : l.stackTraces = false) (hA : Adr P) (hn : 38 ≤ P.2.2.2.1) (S : CallFix p m c cL_law 10 s args (c0 :: ALLW) RL) (hF : Fx P s) (hX : va_X b L xs s s.heap) (hbl : b < s.heap.size) (hbA : ¬ Ab P.2.2.2.2.1 b) (h1 : vp_in (i + 1) L) (h2 : vp_in (i + 2) L) (h3 : vp_in (i + 3) L) {w w' : Wo} {H : Heap} {locs : List Loc} {cells slots : Nat} {ls : Array Slot} (h : F_K_30 w (xs (Int32.toNatClampNeg (i + 1))) (xs (Int32.toNatClampNeg (i + 2))) (xs (Int32.toNatClampNeg (i + 3))) = some w') (hP : St P s w H locs) (hl : lv_has ls 10 (lvL P b i)) (hc : cells + 2 ≤ room_1.cells) (hs : slots + 12 ≤ room_1.slots)
    (kk : ∀ (H1 : Heap) (locs1 : List Loc) (ls1 : Array Slot), St P s w' H1 locs1 → lv_has ls1 10 (lvL P b i) → W p l e room_1 s m args below meth c H1 locs1 (cells + 2) (slots + 12) Q (F0 m 2158 ls1 [])) : W p l e room_1 s m args below meth c H locs cells slots Q (F0 m 1795 ls []) := by
  have hx := S.1
  have hb := S.2.1
  have hlt : ∀ h, h < 38 → h < P.2.2.2.1 := fun h q => Nat.lt_of_lt_of_le q hn
  unfold F_K_30 at h
  refine lv_aload_n hx hb dL_law_1795 rfl (lv_at hl 4 rfl) ?_
  refine vu_i hP (vu_V S hF hP (h := 0) (hlt 0 (by decide)) rfl (by decide) rfl (c_X5_errorPosition l P hA (Nat.le_trans (by decide) hn) w) ok_X5_errorPosition ml_L_234 ⟨Nat.le_of_ble_eq_true rfl, Nat.le_of_ble_eq_true rfl⟩ rfl hl.1 rfl (Nat.le_of_ble_eq_true rfl) dL_law_1796 ⟨by omega, by omega⟩) (fun H locs _ hP => ?_)
  refine lv_aload_n hx hb dL_law_1799 rfl (lv_at hl 3 rfl) ?_
  obtain ⟨q1, hq1, h⟩ := ob h
  refine vu_i hP (vu_V S hF hP (h := 26) (hlt 26 (by decide)) rfl (by decide) rfl (c_X6_errorPosition l P hA (Nat.le_trans (by decide) hn) w hq1) ok_X6_errorPosition ml_L_237 ⟨Nat.le_of_ble_eq_true rfl, Nat.le_of_ble_eq_true rfl⟩ rfl hl.1 rfl (Nat.le_of_ble_eq_true rfl) dL_law_1800 ⟨by omega, by omega⟩) (fun H locs _ hP => ?_)
  obtain ⟨ck2, h⟩ := chk h
  refine lv_icmp_eq (tgt := 2158) hx hb dL_law_1803 (by decide) (fun _ => ?_) (fun c9 => absurd ck2 c9)
  refine W.widen (k := cells + 2) (n := slots + 12) (by omega) (by omega) ?_
  obtain rfl := Option.some.inj h
  exact kk _ _ _ hP (lv_sub hl [0, 1, 2, 3, 4, 5] rfl)
set_option maxRecDepth 100000 in
set_option maxHeartbeats 4000000 in
theorem k_31 {p : Program} {l : Launch} {e : Env} {s : State} {m : MethodId} {args : Array Value} {below : List Frame} {meth : Method} {c : Code} {Q : State → Prop} {P : Pl} {b L : Nat} {xs : Nat → Int32} {c0 : Cond} {i : Int32} (hst : l.stackTraces = false) (hA : Adr P) (hn : 38 ≤ P.2.2.2.1) (S : CallFix p m c cL_law 10 s args (c0 :: ALLW) RL) (hF : Fx P s) (hX : va_X b L xs s s.heap) (hbl : b < s.heap.size) (hbA : ¬ Ab P.2.2.2.2.1 b) (h1 : vp_in (i + 1) L) (h2 : vp_in (i + 2) L) (h3 : vp_in (i + 3) L) {w w' : Wo} {H : Heap} {locs : List Loc} {cells slots : Nat} {ls : Array Slot} (h : F_K_31 w (xs (Int32.toNatClampNeg (i + 1))) (xs (Int32.toNatClampNeg (i + 2))) (xs (Int32.toNatClampNeg (i + 3))) = some w') (hP : St P s w H locs) (hl : lv_has ls 10 (lvL P b i)) (hc : cells + 2 ≤ room_1.cells) (hs : slots + 12 ≤ room_1.slots)
    (kk : ∀ (H1 : Heap) (locs1 : List Loc) (ls1 : Array Slot), St P s w' H1 locs1 → lv_has ls1 10 (lvL P b i) → W p l e room_1 s m args below meth c H1 locs1 (cells + 2) (slots + 12) Q (F0 m 2158 ls1 [])) : W p l e room_1 s m args below meth c H locs cells slots Q (F0 m 1808 ls []) := by
  have hx := S.1
  have hb := S.2.1
  have hlt : ∀ h, h < 38 → h < P.2.2.2.1 := fun h q => Nat.lt_of_lt_of_le q hn
  unfold F_K_31 at h
  by_cases k9 : xs (Int32.toNatClampNeg (i + 1)) = 0
  · rw [if_pos k9] at h
    refine lv_aload_n hx hb dL_law_1808 rfl (lv_at hl 4 rfl) ?_
    refine lv_aload_n hx hb dL_law_1809 rfl (lv_at hl 5 rfl) ?_
    refine lv_iload hx hb dL_law_1810 (lv_at hl 0 rfl) ?_
    refine lv_iconst (v := 1) hx hb dL_law_1812 (by decide) ?_
    refine lv_iadd hx hb dL_law_1813 ?_
    refine va_sld hx hb hX hbl hbA hP.2 h1 dL_law_1814 ?_
    refine lv_if_eq (tgt := 1822) hx hb dL_law_1815 (by decide) (fun _ => ?_) (fun c9 => absurd k9 c9)
    refine lv_iconst (v := 0) hx hb dL_law_1822 (by decide) ?_
    refine lv_aload_n hx hb dL_law_1823 rfl (lv_at hl 2 rfl) ?_
    obtain ⟨q1, hq1, h⟩ := ob h
    refine vu_SW S hF hP (c_L_refusal l P hA hn hst 0 w hq1) ok_L_refusal ml_L_238 ⟨Nat.le_of_ble_eq_true rfl, Nat.le_of_ble_eq_true rfl⟩ rfl hl.1 rfl (Nat.le_of_ble_eq_true rfl) dL_law_1824 ⟨by omega, by omega⟩ (fun H locs hP => ?_)
    refine lv_istore (lv' := [(6, .int q1.1), (5, .int i), (4, .ref (P.2.1 37)), (3, .ref (P.2.1 36)), (2, .ref (P.2.1 26)), (1, .ref (P.2.1 0)), (0, .ref b)]) hx hb dL_law_1827 hl (by decide) rfl (fun ls hl => ?_)
    refine lv_aload_n hx hb dL_law_1829 rfl (lv_at hl 4 rfl) ?_
    refine lv_aload_n hx hb dL_law_1830 rfl (lv_at hl 6 rfl) ?_
    refine lv_iload hx hb dL_law_1831 (lv_at hl 1 rfl) ?_
    refine lv_iconst (v := 1) hx hb dL_law_1833 (by decide) ?_
    refine lv_iadd hx hb dL_law_1834 ?_
    refine va_sld hx hb hX hbl hbA hP.2 h1 dL_law_1835 ?_
    refine lv_if_eq (tgt := 1843) hx hb dL_law_1836 (by decide) (fun _ => ?_) (fun c9 => absurd k9 c9)
    refine lv_iconst (v := 0) hx hb dL_law_1843 (by decide) ?_
    obtain ⟨q2, hq2, h⟩ := ob h
    refine vu_i hP (vu_V S hF hP (h := 26) (hlt 26 (by decide)) rfl (by decide) rfl (c_X6_refusal l P hA (Nat.le_trans (by decide) hn) q1.2 0 hq2) ok_X6_refusal ml_L_240 ⟨Nat.le_of_ble_eq_true rfl, Nat.le_of_ble_eq_true rfl⟩ rfl hl.1 rfl (Nat.le_of_ble_eq_true rfl) dL_law_1844 ⟨by omega, by omega⟩) (fun H locs _ hP => ?_)
    refine lv_istore (lv' := [(7, .int q2.1), (6, .int q1.1), (5, .int i), (4, .ref (P.2.1 37)), (3, .ref (P.2.1 36)), (2, .ref (P.2.1 26)), (1, .ref (P.2.1 0)), (0, .ref b)]) hx hb dL_law_1847 hl (by decide) rfl (fun ls hl => ?_)
    refine lv_aload_n hx hb dL_law_1849 rfl (lv_at hl 5 rfl) ?_
    refine vu_i hP (vu_V S hF hP (h := 26) (hlt 26 (by decide)) rfl (by decide) rfl (c_X6_thrown l P hA (Nat.le_trans (by decide) hn) q2.2) ok_X6_thrown ml_L_132 ⟨Nat.le_of_ble_eq_true rfl, Nat.le_of_ble_eq_true rfl⟩ rfl hl.1 rfl (Nat.le_of_ble_eq_true rfl) dL_law_1850 ⟨by omega, by omega⟩) (fun H locs _ hP => ?_)
    refine lv_iload hx hb dL_law_1853 (lv_at hl 1 rfl) ?_
    obtain ⟨ck3, h⟩ := chk h
    refine lv_icmp_eq (tgt := 1860) hx hb dL_law_1855 (by decide) (fun _ => ?_) (fun c9 => absurd ck3 c9)
    refine lv_iload hx hb dL_law_1860 (lv_at hl 1 rfl) ?_
    obtain ⟨ck5, h⟩ := chk h
    obtain rfl := Option.some.inj h
    refine lv_if_ne (tgt := 1877) hx hb dL_law_1862 (by decide) (fun c4 => ?_) (fun c4 => ?_)
    · refine lv_goto (tgt := 2158) hx hb dL_law_1877 (by decide) ?_
      refine W.widen (k := cells + 2) (n := slots + 12) (by omega) (by omega) ?_
      exact kk _ _ _ hP (lv_sub hl [2, 3, 4, 5, 6, 7] rfl)
    · refine lv_aload_n hx hb dL_law_1865 rfl (lv_at hl 4 rfl) ?_
      refine lv_iconst (v := 0) hx hb dL_law_1866 (by decide) ?_
      refine vt_laldK (n := 1) 0 (by decide) S hF hP (hlt 36 (by decide)) rfl (by decide) dL_law_1867 ?_
      refine lv_iload hx hb dL_law_1868 (lv_at hl 0 rfl) ?_
      refine lv_i2l hx hb dL_law_1870 rfl ?_
      refine W.lcmp hx hb dL_law_1871 ?_
      refine lv_if_eq (tgt := 1877) hx hb dL_law_1872 (by decide) (fun _ => ?_) (fun c9 => absurd (ck5 c4) c9)
      refine lv_goto (tgt := 2158) hx hb dL_law_1877 (by decide) ?_
      refine W.widen (k := cells + 2) (n := slots + 12) (by omega) (by omega) ?_
      exact kk _ _ _ hP (lv_sub hl [2, 3, 4, 5, 6, 7] rfl)
  · rw [if_neg k9] at h
    refine lv_aload_n hx hb dL_law_1808 rfl (lv_at hl 4 rfl) ?_
    refine lv_aload_n hx hb dL_law_1809 rfl (lv_at hl 5 rfl) ?_
    refine lv_iload hx hb dL_law_1810 (lv_at hl 0 rfl) ?_
    refine lv_iconst (v := 1) hx hb dL_law_1812 (by decide) ?_
    refine lv_iadd hx hb dL_law_1813 ?_
    refine va_sld hx hb hX hbl hbA hP.2 h1 dL_law_1814 ?_
    refine lv_if_eq (tgt := 1822) hx hb dL_law_1815 (by decide) (fun c9 => absurd c9 k9) (fun _ => ?_)
    refine lv_iconst (v := 1) hx hb dL_law_1818 (by decide) ?_
    refine lv_goto (tgt := 1823) hx hb dL_law_1819 (by decide) ?_
    refine lv_aload_n hx hb dL_law_1823 rfl (lv_at hl 2 rfl) ?_
    obtain ⟨q1, hq1, h⟩ := ob h
    refine vu_SW S hF hP (c_L_refusal l P hA hn hst 1 w hq1) ok_L_refusal ml_L_238 ⟨Nat.le_of_ble_eq_true rfl, Nat.le_of_ble_eq_true rfl⟩ rfl hl.1 rfl (Nat.le_of_ble_eq_true rfl) dL_law_1824 ⟨by omega, by omega⟩ (fun H locs hP => ?_)
    refine lv_istore (lv' := [(6, .int q1.1), (5, .int i), (4, .ref (P.2.1 37)), (3, .ref (P.2.1 36)), (2, .ref (P.2.1 26)), (1, .ref (P.2.1 0)), (0, .ref b)]) hx hb dL_law_1827 hl (by decide) rfl (fun ls hl => ?_)
    refine lv_aload_n hx hb dL_law_1829 rfl (lv_at hl 4 rfl) ?_
    refine lv_aload_n hx hb dL_law_1830 rfl (lv_at hl 6 rfl) ?_
    refine lv_iload hx hb dL_law_1831 (lv_at hl 1 rfl) ?_
    refine lv_iconst (v := 1) hx hb dL_law_1833 (by decide) ?_
    refine lv_iadd hx hb dL_law_1834 ?_
    refine va_sld hx hb hX hbl hbA hP.2 h1 dL_law_1835 ?_
    refine lv_if_eq (tgt := 1843) hx hb dL_law_1836 (by decide) (fun c9 => absurd c9 k9) (fun _ => ?_)
    refine lv_iconst (v := 1) hx hb dL_law_1839 (by decide) ?_
    refine lv_goto (tgt := 1844) hx hb dL_law_1840 (by decide) ?_
    obtain ⟨q2, hq2, h⟩ := ob h
    refine vu_i hP (vu_V S hF hP (h := 26) (hlt 26 (by decide)) rfl (by decide) rfl (c_X6_refusal l P hA (Nat.le_trans (by decide) hn) q1.2 1 hq2) ok_X6_refusal ml_L_240 ⟨Nat.le_of_ble_eq_true rfl, Nat.le_of_ble_eq_true rfl⟩ rfl hl.1 rfl (Nat.le_of_ble_eq_true rfl) dL_law_1844 ⟨by omega, by omega⟩) (fun H locs _ hP => ?_)
    refine lv_istore (lv' := [(7, .int q2.1), (6, .int q1.1), (5, .int i), (4, .ref (P.2.1 37)), (3, .ref (P.2.1 36)), (2, .ref (P.2.1 26)), (1, .ref (P.2.1 0)), (0, .ref b)]) hx hb dL_law_1847 hl (by decide) rfl (fun ls hl => ?_)
    refine lv_aload_n hx hb dL_law_1849 rfl (lv_at hl 5 rfl) ?_
    refine vu_i hP (vu_V S hF hP (h := 26) (hlt 26 (by decide)) rfl (by decide) rfl (c_X6_thrown l P hA (Nat.le_trans (by decide) hn) q2.2) ok_X6_thrown ml_L_132 ⟨Nat.le_of_ble_eq_true rfl, Nat.le_of_ble_eq_true rfl⟩ rfl hl.1 rfl (Nat.le_of_ble_eq_true rfl) dL_law_1850 ⟨by omega, by omega⟩) (fun H locs _ hP => ?_)
    refine lv_iload hx hb dL_law_1853 (lv_at hl 1 rfl) ?_
    obtain ⟨ck3, h⟩ := chk h
    refine lv_icmp_eq (tgt := 1860) hx hb dL_law_1855 (by decide) (fun _ => ?_) (fun c9 => absurd ck3 c9)
    refine lv_iload hx hb dL_law_1860 (lv_at hl 1 rfl) ?_
    obtain ⟨ck5, h⟩ := chk h
    obtain rfl := Option.some.inj h
    refine lv_if_ne (tgt := 1877) hx hb dL_law_1862 (by decide) (fun c4 => ?_) (fun c4 => ?_)
    · refine lv_goto (tgt := 2158) hx hb dL_law_1877 (by decide) ?_
      refine W.widen (k := cells + 2) (n := slots + 12) (by omega) (by omega) ?_
      exact kk _ _ _ hP (lv_sub hl [2, 3, 4, 5, 6, 7] rfl)
    · refine lv_aload_n hx hb dL_law_1865 rfl (lv_at hl 4 rfl) ?_
      refine lv_iconst (v := 0) hx hb dL_law_1866 (by decide) ?_
      refine vt_laldK (n := 1) 0 (by decide) S hF hP (hlt 36 (by decide)) rfl (by decide) dL_law_1867 ?_
      refine lv_iload hx hb dL_law_1868 (lv_at hl 0 rfl) ?_
      refine lv_i2l hx hb dL_law_1870 rfl ?_
      refine W.lcmp hx hb dL_law_1871 ?_
      refine lv_if_eq (tgt := 1877) hx hb dL_law_1872 (by decide) (fun _ => ?_) (fun c9 => absurd (ck5 c4) c9)
      refine lv_goto (tgt := 2158) hx hb dL_law_1877 (by decide) ?_
      refine W.widen (k := cells + 2) (n := slots + 12) (by omega) (by omega) ?_
      exact kk _ _ _ hP (lv_sub hl [2, 3, 4, 5, 6, 7] rfl)
set_option maxRecDepth 100000 in
set_option maxHeartbeats 4000000 in
theorem k_32 {p : Program} {l : Launch} {e : Env} {s : State} {m : MethodId} {args : Array Value} {below : List Frame} {meth : Method} {c : Code} {Q : State → Prop} {P : Pl} {b L : Nat} {xs : Nat → Int32} {c0 : Cond} {i : Int32} (hst : l.stackTraces = false) (hA : Adr P) (hn : 38 ≤ P.2.2.2.1) (S : CallFix p m c cL_law 10 s args (c0 :: ALLW) RL) (hF : Fx P s) (hX : va_X b L xs s s.heap) (hbl : b < s.heap.size) (hbA : ¬ Ab P.2.2.2.2.1 b) (h1 : vp_in (i + 1) L) (h2 : vp_in (i + 2) L) (h3 : vp_in (i + 3) L) {w w' : Wo} {H : Heap} {locs : List Loc} {cells slots : Nat} {ls : Array Slot} (h : F_K_32 w (xs (Int32.toNatClampNeg (i + 1))) (xs (Int32.toNatClampNeg (i + 2))) (xs (Int32.toNatClampNeg (i + 3))) = some w') (hP : St P s w H locs) (hl : lv_has ls 10 (lvL P b i)) (hc : cells + 2 ≤ room_1.cells) (hs : slots + 12 ≤ room_1.slots)
    (kk : ∀ (H1 : Heap) (locs1 : List Loc) (ls1 : Array Slot), St P s w' H1 locs1 → lv_has ls1 10 (lvL P b i) → W p l e room_1 s m args below meth c H1 locs1 (cells + 2) (slots + 12) Q (F0 m 2158 ls1 [])) : W p l e room_1 s m args below meth c H locs cells slots Q (F0 m 1880 ls []) := by
  have hx := S.1
  have hb := S.2.1
  have hlt : ∀ h, h < 38 → h < P.2.2.2.1 := fun h q => Nat.lt_of_lt_of_le q hn
  unfold F_K_32 at h
  refine lv_aload_n hx hb dL_law_1880 rfl (lv_at hl 4 rfl) ?_
  refine lv_aload_n hx hb dL_law_1881 rfl (lv_at hl 5 rfl) ?_
  refine lv_iload hx hb dL_law_1882 (lv_at hl 0 rfl) ?_
  refine lv_iconst (v := 1) hx hb dL_law_1884 (by decide) ?_
  refine lv_iadd hx hb dL_law_1885 ?_
  refine va_sld hx hb hX hbl hbA hP.2 h1 dL_law_1886 ?_
  refine lv_aload_n hx hb dL_law_1887 rfl (lv_at hl 2 rfl) ?_
  obtain ⟨q1, hq1, h⟩ := ob h
  refine vu_SW S hF hP (c_L_account l P hA hn hst (xs (Int32.toNatClampNeg (i + 1))) w hq1) ok_L_account ml_L_241 ⟨Nat.le_of_ble_eq_true rfl, Nat.le_of_ble_eq_true rfl⟩ rfl hl.1 rfl (Nat.le_of_ble_eq_true rfl) dL_law_1888 ⟨by omega, by omega⟩ (fun H locs hP => ?_)
  refine lv_istore (lv' := [(6, .int q1.1), (5, .int i), (4, .ref (P.2.1 37)), (3, .ref (P.2.1 36)), (2, .ref (P.2.1 26)), (1, .ref (P.2.1 0)), (0, .ref b)]) hx hb dL_law_1891 hl (by decide) rfl (fun ls hl => ?_)
  refine lv_aload_n hx hb dL_law_1893 rfl (lv_at hl 4 rfl) ?_
  refine lv_aload_n hx hb dL_law_1894 rfl (lv_at hl 6 rfl) ?_
  refine lv_iload hx hb dL_law_1895 (lv_at hl 1 rfl) ?_
  refine lv_iconst (v := 1) hx hb dL_law_1897 (by decide) ?_
  refine lv_iadd hx hb dL_law_1898 ?_
  refine va_sld hx hb hX hbl hbA hP.2 h1 dL_law_1899 ?_
  obtain ⟨q2, hq2, h⟩ := ob h
  refine vu_i hP (vu_V S hF hP (h := 26) (hlt 26 (by decide)) rfl (by decide) rfl (c_X6_account l P hA (Nat.le_trans (by decide) hn) q1.2 (xs (Int32.toNatClampNeg (i + 1))) hq2) ok_X6_account ml_L_243 ⟨Nat.le_of_ble_eq_true rfl, Nat.le_of_ble_eq_true rfl⟩ rfl hl.1 rfl (Nat.le_of_ble_eq_true rfl) dL_law_1900 ⟨by omega, by omega⟩) (fun H locs _ hP => ?_)
  refine lv_istore (lv' := [(7, .int q2.1), (6, .int q1.1), (5, .int i), (4, .ref (P.2.1 37)), (3, .ref (P.2.1 36)), (2, .ref (P.2.1 26)), (1, .ref (P.2.1 0)), (0, .ref b)]) hx hb dL_law_1903 hl (by decide) rfl (fun ls hl => ?_)
  refine lv_aload_n hx hb dL_law_1905 rfl (lv_at hl 5 rfl) ?_
  refine vu_i hP (vu_V S hF hP (h := 26) (hlt 26 (by decide)) rfl (by decide) rfl (c_X6_thrown l P hA (Nat.le_trans (by decide) hn) q2.2) ok_X6_thrown ml_L_132 ⟨Nat.le_of_ble_eq_true rfl, Nat.le_of_ble_eq_true rfl⟩ rfl hl.1 rfl (Nat.le_of_ble_eq_true rfl) dL_law_1906 ⟨by omega, by omega⟩) (fun H locs _ hP => ?_)
  refine lv_iload hx hb dL_law_1909 (lv_at hl 1 rfl) ?_
  obtain ⟨ck3, h⟩ := chk h
  refine lv_icmp_eq (tgt := 1916) hx hb dL_law_1911 (by decide) (fun _ => ?_) (fun c9 => absurd ck3 c9)
  refine lv_iload hx hb dL_law_1916 (lv_at hl 1 rfl) ?_
  obtain ⟨ck5, h⟩ := chk h
  obtain rfl := Option.some.inj h
  refine lv_if_ne (tgt := 1933) hx hb dL_law_1918 (by decide) (fun c4 => ?_) (fun c4 => ?_)
  · refine lv_goto (tgt := 2158) hx hb dL_law_1933 (by decide) ?_
    refine W.widen (k := cells + 2) (n := slots + 12) (by omega) (by omega) ?_
    exact kk _ _ _ hP (lv_sub hl [2, 3, 4, 5, 6, 7] rfl)
  · refine lv_aload_n hx hb dL_law_1921 rfl (lv_at hl 4 rfl) ?_
    refine lv_iconst (v := 0) hx hb dL_law_1922 (by decide) ?_
    refine vt_laldK (n := 1) 0 (by decide) S hF hP (hlt 36 (by decide)) rfl (by decide) dL_law_1923 ?_
    refine lv_iload hx hb dL_law_1924 (lv_at hl 0 rfl) ?_
    refine lv_i2l hx hb dL_law_1926 rfl ?_
    refine W.lcmp hx hb dL_law_1927 ?_
    refine lv_if_eq (tgt := 1933) hx hb dL_law_1928 (by decide) (fun _ => ?_) (fun c9 => absurd (ck5 c4) c9)
    refine lv_goto (tgt := 2158) hx hb dL_law_1933 (by decide) ?_
    refine W.widen (k := cells + 2) (n := slots + 12) (by omega) (by omega) ?_
    exact kk _ _ _ hP (lv_sub hl [2, 3, 4, 5, 6, 7] rfl)
set_option maxRecDepth 100000 in
set_option maxHeartbeats 4000000 in
theorem k_33 {p : Program} {l : Launch} {e : Env} {s : State} {m : MethodId} {args : Array Value} {below : List Frame} {meth : Method} {c : Code} {Q : State → Prop} {P : Pl} {b L : Nat} {xs : Nat → Int32} {c0 : Cond} {i : Int32} (hst : l.stackTraces = false) (hA : Adr P) (hn : 38 ≤ P.2.2.2.1) (S : CallFix p m c cL_law 10 s args (c0 :: ALLW) RL) (hF : Fx P s) (hX : va_X b L xs s s.heap) (hbl : b < s.heap.size) (hbA : ¬ Ab P.2.2.2.2.1 b) (h1 : vp_in (i + 1) L) (h2 : vp_in (i + 2) L) (h3 : vp_in (i + 3) L) {w w' : Wo} {H : Heap} {locs : List Loc} {cells slots : Nat} {ls : Array Slot} (h : F_K_33 w (xs (Int32.toNatClampNeg (i + 1))) (xs (Int32.toNatClampNeg (i + 2))) (xs (Int32.toNatClampNeg (i + 3))) = some w') (hP : St P s w H locs) (hl : lv_has ls 10 (lvL P b i)) (hc : cells + 2 ≤ room_1.cells) (hs : slots + 12 ≤ room_1.slots)
    (kk : ∀ (H1 : Heap) (locs1 : List Loc) (ls1 : Array Slot), St P s w' H1 locs1 → lv_has ls1 10 (lvL P b i) → W p l e room_1 s m args below meth c H1 locs1 (cells + 2) (slots + 12) Q (F0 m 2158 ls1 [])) : W p l e room_1 s m args below meth c H locs cells slots Q (F0 m 1936 ls []) := by
  have hx := S.1
  have hb := S.2.1
  have hlt : ∀ h, h < 38 → h < P.2.2.2.1 := fun h q => Nat.lt_of_lt_of_le q hn
  unfold F_K_33 at h
  refine lv_aload_n hx hb dL_law_1936 rfl (lv_at hl 4 rfl) ?_
  obtain ⟨q1, hq1, h⟩ := ob h
  refine vu_i hP (vu_V S hF hP (h := 0) (hlt 0 (by decide)) rfl (by decide) rfl (c_X5_isWell l P hA (Nat.le_trans (by decide) hn) w hq1) ok_X5_isWell ml_L_244 ⟨Nat.le_of_ble_eq_true rfl, Nat.le_of_ble_eq_true rfl⟩ rfl hl.1 rfl (Nat.le_of_ble_eq_true rfl) dL_law_1937 ⟨by omega, by omega⟩) (fun H locs _ hP => ?_)
  refine lv_aload_n hx hb dL_law_1940 rfl (lv_at hl 3 rfl) ?_
  obtain ⟨q2, hq2, h⟩ := ob h
  refine vu_i hP (vu_V S hF hP (h := 26) (hlt 26 (by decide)) rfl (by decide) rfl (c_X6_isWell l P hA (Nat.le_trans (by decide) hn) q1.2 hq2) ok_X6_isWell ml_L_247 ⟨Nat.le_of_ble_eq_true rfl, Nat.le_of_ble_eq_true rfl⟩ rfl hl.1 rfl (Nat.le_of_ble_eq_true rfl) dL_law_1941 ⟨by omega, by omega⟩) (fun H locs _ hP => ?_)
  obtain ⟨ck3, h⟩ := chk h
  refine lv_icmp_eq (tgt := 2158) hx hb dL_law_1944 (by decide) (fun _ => ?_) (fun c9 => absurd ck3 c9)
  refine W.widen (k := cells + 2) (n := slots + 12) (by omega) (by omega) ?_
  obtain rfl := Option.some.inj h
  exact kk _ _ _ hP (lv_sub hl [0, 1, 2, 3, 4, 5] rfl)
set_option maxRecDepth 100000 in
set_option maxHeartbeats 4000000 in
theorem k_34 {p : Program} {l : Launch} {e : Env} {s : State} {m : MethodId} {args : Array Value} {below : List Frame} {meth : Method} {c : Code} {Q : State → Prop} {P : Pl} {b L : Nat} {xs : Nat → Int32} {c0 : Cond} {i : Int32} (hst : l.stackTraces = false) (hA : Adr P) (hn : 38 ≤ P.2.2.2.1) (S : CallFix p m c cL_law 10 s args (c0 :: ALLW) RL) (hF : Fx P s) (hX : va_X b L xs s s.heap) (hbl : b < s.heap.size) (hbA : ¬ Ab P.2.2.2.2.1 b) (h1 : vp_in (i + 1) L) (h2 : vp_in (i + 2) L) (h3 : vp_in (i + 3) L) {w w' : Wo} {H : Heap} {locs : List Loc} {cells slots : Nat} {ls : Array Slot} (h : F_K_34 w (xs (Int32.toNatClampNeg (i + 1))) (xs (Int32.toNatClampNeg (i + 2))) (xs (Int32.toNatClampNeg (i + 3))) = some w') (hP : St P s w H locs) (hl : lv_has ls 10 (lvL P b i)) (hc : cells + 2 ≤ room_1.cells) (hs : slots + 12 ≤ room_1.slots)
    (kk : ∀ (H1 : Heap) (locs1 : List Loc) (ls1 : Array Slot), St P s w' H1 locs1 → lv_has ls1 10 (lvL P b i) → W p l e room_1 s m args below meth c H1 locs1 (cells + 2) (slots + 12) Q (F0 m 2158 ls1 [])) : W p l e room_1 s m args below meth c H locs cells slots Q (F0 m 1949 ls []) := by
  have hx := S.1
  have hb := S.2.1
  have hlt : ∀ h, h < 38 → h < P.2.2.2.1 := fun h q => Nat.lt_of_lt_of_le q hn
  unfold F_K_34 at h
  refine lv_aload_n hx hb dL_law_1949 rfl (lv_at hl 4 rfl) ?_
  refine lv_aload hx hb dL_law_1950 (lv_at hl 1 rfl) ?_
  obtain ⟨q1, hq1, h⟩ := ob h
  refine vu_SW S hF hP (c_L_meanFar l P hA hn hst w hq1) ok_L_meanFar ml_L_248 ⟨Nat.le_of_ble_eq_true rfl, Nat.le_of_ble_eq_true rfl⟩ rfl hl.1 rfl (Nat.le_of_ble_eq_true rfl) dL_law_1952 ⟨by omega, by omega⟩ (fun H locs hP => ?_)
  refine lv_istore (lv' := [(6, .int q1.1), (5, .int i), (4, .ref (P.2.1 37)), (3, .ref (P.2.1 36)), (2, .ref (P.2.1 26)), (1, .ref (P.2.1 0)), (0, .ref b)]) hx hb dL_law_1955 hl (by decide) rfl (fun ls hl => ?_)
  refine lv_aload_n hx hb dL_law_1957 rfl (lv_at hl 4 rfl) ?_
  obtain ⟨q2, hq2, h⟩ := ob h
  refine vu_d hP (vu_V S hF hP (h := 26) (hlt 26 (by decide)) rfl (by decide) rfl (c_X6_meanFar l P hA (Nat.le_trans (by decide) hn) q1.2 hq2) ok_X6_meanFar ml_L_251 ⟨Nat.le_of_ble_eq_true rfl, Nat.le_of_ble_eq_true rfl⟩ rfl hl.1 rfl (Nat.le_of_ble_eq_true rfl) dL_law_1958 ⟨by omega, by omega⟩) (fun H locs hP => ?_)
  refine lv_dstore (lv' := [(7, .double q2.1), (6, .int q1.1), (5, .int i), (4, .ref (P.2.1 37)), (3, .ref (P.2.1 36)), (2, .ref (P.2.1 26)), (1, .ref (P.2.1 0)), (0, .ref b)]) hx hb dL_law_1961 hl (by decide) rfl (fun ls hl => ?_)
  refine lv_aload_n hx hb dL_law_1963 rfl (lv_at hl 5 rfl) ?_
  refine vu_i hP (vu_V S hF hP (h := 26) (hlt 26 (by decide)) rfl (by decide) rfl (c_X6_thrown l P hA (Nat.le_trans (by decide) hn) q2.2) ok_X6_thrown ml_L_132 ⟨Nat.le_of_ble_eq_true rfl, Nat.le_of_ble_eq_true rfl⟩ rfl hl.1 rfl (Nat.le_of_ble_eq_true rfl) dL_law_1964 ⟨by omega, by omega⟩) (fun H locs _ hP => ?_)
  refine lv_iload hx hb dL_law_1967 (lv_at hl 1 rfl) ?_
  obtain ⟨ck3, h⟩ := chk h
  refine lv_icmp_eq (tgt := 1974) hx hb dL_law_1969 (by decide) (fun _ => ?_) (fun c9 => absurd ck3 c9)
  refine lv_iload hx hb dL_law_1974 (lv_at hl 1 rfl) ?_
  obtain ⟨ck4, h⟩ := chk h
  obtain rfl := Option.some.inj h
  have fin : W p l e room_1 s m args below meth c H locs (cells + 1) (slots + 6 * 1) Q (F0 m 2011 ls []) := by
    refine lv_goto (tgt := 2158) hx hb dL_law_2011 (by decide) ?_
    refine W.widen (k := cells + 2) (n := slots + 12) (by omega) (by omega) ?_
    exact kk _ _ _ hP (lv_sub hl [2, 3, 4, 5, 6, 7] rfl)
  refine lv_if_ne (tgt := 2011) hx hb dL_law_1976 (by decide) (fun c4 => fin) (fun c4 => ?_)
  refine lv_aload hx hb dL_law_1979 (lv_at hl 3 rfl) ?_
  refine lv_iconst (v := 0) hx hb dL_law_1981 (by decide) ?_
  refine vt_daldK (n := 1) 0 (by decide) S hF hP (hlt 37 (by decide)) rfl (by decide) dL_law_1982 ?_
  rw [ck4 c4]
  refine lv_dload hx hb dL_law_1983 (lv_at hl 0 rfl) ?_
  refine lv_dcmp hx hb dL_law_1985 ?_
  refine lv_if_eq (tgt := 2011) hx hb dL_law_1986 (by decide) (fun _ => fin) (fun c5 => ?_)
  refine lv_aload hx hb dL_law_1989 (lv_at hl 3 rfl) ?_
  refine lv_iconst (v := 0) hx hb dL_law_1991 (by decide) ?_
  refine vt_daldK (n := 1) 0 (by decide) S hF hP (hlt 37 (by decide)) rfl (by decide) dL_law_1992 ?_
  rw [ck4 c4]
  refine lv_aload hx hb dL_law_1993 (lv_at hl 3 rfl) ?_
  refine lv_iconst (v := 0) hx hb dL_law_1995 (by decide) ?_
  refine vt_daldK (n := 1) 0 (by decide) S hF hP (hlt 37 (by decide)) rfl (by decide) dL_law_1996 ?_
  rw [ck4 c4]
  refine lv_dcmp hx hb dL_law_1997 ?_
  refine lv_if_eq (tgt := 2009) hx hb dL_law_1998 (by decide) (fun c9 => absurd c9 c5) (fun _ => ?_)
  refine lv_dload hx hb dL_law_2001 (lv_at hl 0 rfl) ?_
  refine lv_dload hx hb dL_law_2003 (lv_at hl 0 rfl) ?_
  refine lv_dcmp hx hb dL_law_2005 ?_
  exact lv_if_ne (tgt := 2011) hx hb dL_law_2006 (by decide) (fun _ => fin) (fun c9 => absurd c9 c5)
set_option maxRecDepth 100000 in
set_option maxHeartbeats 4000000 in
theorem k_35 {p : Program} {l : Launch} {e : Env} {s : State} {m : MethodId} {args : Array Value} {below : List Frame} {meth : Method} {c : Code} {Q : State → Prop} {P : Pl} {b L : Nat} {xs : Nat → Int32} {c0 : Cond} {i : Int32} (hst : l.stackTraces = false) (hA : Adr P) (hn : 38 ≤ P.2.2.2.1) (S : CallFix p m c cL_law 10 s args (c0 :: ALLW) RL) (hF : Fx P s) (hX : va_X b L xs s s.heap) (hbl : b < s.heap.size) (hbA : ¬ Ab P.2.2.2.2.1 b) (h1 : vp_in (i + 1) L) (h2 : vp_in (i + 2) L) (h3 : vp_in (i + 3) L) {w w' : Wo} {H : Heap} {locs : List Loc} {cells slots : Nat} {ls : Array Slot} (h : F_K_35 w (xs (Int32.toNatClampNeg (i + 1))) (xs (Int32.toNatClampNeg (i + 2))) (xs (Int32.toNatClampNeg (i + 3))) = some w') (hP : St P s w H locs) (hl : lv_has ls 10 (lvL P b i)) (hc : cells + 2 ≤ room_1.cells) (hs : slots + 12 ≤ room_1.slots)
    (kk : ∀ (H1 : Heap) (locs1 : List Loc) (ls1 : Array Slot), St P s w' H1 locs1 → lv_has ls1 10 (lvL P b i) → W p l e room_1 s m args below meth c H1 locs1 (cells + 2) (slots + 12) Q (F0 m 2158 ls1 [])) : W p l e room_1 s m args below meth c H locs cells slots Q (F0 m 2014 ls []) := by
  have hx := S.1
  have hb := S.2.1
  have hlt : ∀ h, h < 38 → h < P.2.2.2.1 := fun h q => Nat.lt_of_lt_of_le q hn
  unfold F_K_35 at h
  obtain ⟨q1, hq1, h⟩ := ob h
  obtain ⟨q2, hq2, h⟩ := ob h
  obtain ⟨⟨e1, ck⟩, h⟩ := chk h
  obtain rfl := Option.some.inj h
  refine lv_aload_n hx hb dL_law_2014 rfl (lv_at hl 4 rfl) ?_
  refine vu_f hP (vu_V S hF hP (h := 0) (hlt 0 (by decide)) rfl (by decide) rfl (c_X5_homeShare l P hA (Nat.le_trans (by decide) hn) w hq1) ok_X5_homeShare ml_L_252 ⟨Nat.le_of_ble_eq_true rfl, Nat.le_of_ble_eq_true rfl⟩ rfl hl.1 rfl (Nat.le_of_ble_eq_true rfl) dL_law_2015 ⟨by omega, by omega⟩) (fun H locs hP => ?_)
  rw [e1]
  refine lv_f2d hx hb dL_law_2018 ck ?_
  refine lv_dstore (lv' := [(6, .double (FP.f2d q2.1)), (5, .int i), (4, .ref (P.2.1 37)), (3, .ref (P.2.1 36)), (2, .ref (P.2.1 26)), (1, .ref (P.2.1 0)), (0, .ref b)]) hx hb dL_law_2019 hl (by decide) rfl (fun ls hl => ?_)
  refine lv_aload_n hx hb dL_law_2021 rfl (lv_at hl 4 rfl) ?_
  refine vu_f hP (vu_V S hF hP (h := 26) (hlt 26 (by decide)) rfl (by decide) rfl (c_X6_homeShare l P hA (Nat.le_trans (by decide) hn) w hq2) ok_X6_homeShare ml_L_256 ⟨Nat.le_of_ble_eq_true rfl, Nat.le_of_ble_eq_true rfl⟩ rfl hl.1 rfl (Nat.le_of_ble_eq_true rfl) dL_law_2022 ⟨by omega, by omega⟩) (fun H locs hP => ?_)
  refine lv_f2d hx hb dL_law_2025 ck ?_
  refine lv_dstore (lv' := [(8, .double (FP.f2d q2.1)), (6, .double (FP.f2d q2.1)), (5, .int i), (4, .ref (P.2.1 37)), (3, .ref (P.2.1 36)), (2, .ref (P.2.1 26)), (1, .ref (P.2.1 0)), (0, .ref b)]) hx hb dL_law_2026 hl (by decide) rfl (fun ls hl => ?_)
  have fin : W p l e room_1 s m args below meth c H locs cells slots Q (F0 m 2054 ls []) := by
    refine lv_goto (tgt := 2158) hx hb dL_law_2054 (by decide) ?_
    refine W.widen (k := cells + 2) (n := slots + 12) (by omega) (by omega) ?_
    exact kk _ _ _ hP (lv_sub hl [2, 3, 4, 5, 6, 7] rfl)
  refine lv_dload hx hb dL_law_2028 (lv_at hl 1 rfl) ?_
  refine lv_dload hx hb dL_law_2030 (lv_at hl 0 rfl) ?_
  refine lv_dcmp hx hb dL_law_2032 ?_
  refine lv_if_eq (tgt := 2054) hx hb dL_law_2033 (by decide) (fun _ => fin) (fun c5 => ?_)
  refine lv_dload hx hb dL_law_2036 (lv_at hl 1 rfl) ?_
  refine lv_dload hx hb dL_law_2038 (lv_at hl 1 rfl) ?_
  refine lv_dcmp hx hb dL_law_2040 ?_
  refine lv_if_eq (tgt := 2052) hx hb dL_law_2041 (by decide) (fun c9 => absurd c9 c5) (fun _ => ?_)
  refine lv_dload hx hb dL_law_2044 (lv_at hl 0 rfl) ?_
  refine lv_dload hx hb dL_law_2046 (lv_at hl 0 rfl) ?_
  refine lv_dcmp hx hb dL_law_2048 ?_
  exact lv_if_ne (tgt := 2054) hx hb dL_law_2049 (by decide) (fun _ => fin) (fun c9 => absurd c9 c5)
set_option maxRecDepth 100000 in
set_option maxHeartbeats 4000000 in
theorem k_36 {p : Program} {l : Launch} {e : Env} {s : State} {m : MethodId} {args : Array Value} {below : List Frame} {meth : Method} {c : Code} {Q : State → Prop} {P : Pl} {b L : Nat} {xs : Nat → Int32} {c0 : Cond} {i : Int32} (hst : l.stackTraces = false) (hA : Adr P) (hn : 38 ≤ P.2.2.2.1) (S : CallFix p m c cL_law 10 s args (c0 :: ALLW) RL) (hF : Fx P s) (hX : va_X b L xs s s.heap) (hbl : b < s.heap.size) (hbA : ¬ Ab P.2.2.2.2.1 b) (h1 : vp_in (i + 1) L) (h2 : vp_in (i + 2) L) (h3 : vp_in (i + 3) L) {w w' : Wo} {H : Heap} {locs : List Loc} {cells slots : Nat} {ls : Array Slot} (h : F_K_36 w (xs (Int32.toNatClampNeg (i + 1))) (xs (Int32.toNatClampNeg (i + 2))) (xs (Int32.toNatClampNeg (i + 3))) = some w') (hP : St P s w H locs) (hl : lv_has ls 10 (lvL P b i)) (hc : cells + 2 ≤ room_1.cells) (hs : slots + 12 ≤ room_1.slots)
    (kk : ∀ (H1 : Heap) (locs1 : List Loc) (ls1 : Array Slot), St P s w' H1 locs1 → lv_has ls1 10 (lvL P b i) → W p l e room_1 s m args below meth c H1 locs1 (cells + 2) (slots + 12) Q (F0 m 2158 ls1 [])) : W p l e room_1 s m args below meth c H locs cells slots Q (F0 m 2057 ls []) := by
  have hx := S.1
  have hb := S.2.1
  have hlt : ∀ h, h < 38 → h < P.2.2.2.1 := fun h q => Nat.lt_of_lt_of_le q hn
  unfold F_K_36 at h
  refine lv_aload_n hx hb dL_law_2057 rfl (lv_at hl 4 rfl) ?_
  refine lv_aload_n hx hb dL_law_2058 rfl (lv_at hl 2 rfl) ?_
  obtain ⟨q1, hq1, h⟩ := ob h
  refine vu_SW S hF hP (c_L_undo l P hA hn hst w hq1) ok_L_undo ml_L_257 ⟨Nat.le_of_ble_eq_true rfl, Nat.le_of_ble_eq_true rfl⟩ rfl hl.1 rfl (Nat.le_of_ble_eq_true rfl) dL_law_2059 ⟨by omega, by omega⟩ (fun H locs hP => ?_)
  refine lv_istore (lv' := [(6, .int q1.1), (5, .int i), (4, .ref (P.2.1 37)), (3, .ref (P.2.1 36)), (2, .ref (P.2.1 26)), (1, .ref (P.2.1 0)), (0, .ref b)]) hx hb dL_law_2062 hl (by decide) rfl (fun ls hl => ?_)
  refine lv_aload_n hx hb dL_law_2064 rfl (lv_at hl 4 rfl) ?_
  obtain ⟨q2, hq2, h⟩ := ob h
  refine vu_i hP (vu_V S hF hP (h := 26) (hlt 26 (by decide)) rfl (by decide) rfl (c_X6_undo l P hA (Nat.le_trans (by decide) hn) q1.2 hq2) ok_X6_undo ml_L_259 ⟨Nat.le_of_ble_eq_true rfl, Nat.le_of_ble_eq_true rfl⟩ rfl hl.1 rfl (Nat.le_of_ble_eq_true rfl) dL_law_2065 ⟨by omega, by omega⟩) (fun H locs _ hP => ?_)
  refine lv_istore (lv' := [(7, .int q2.1), (6, .int q1.1), (5, .int i), (4, .ref (P.2.1 37)), (3, .ref (P.2.1 36)), (2, .ref (P.2.1 26)), (1, .ref (P.2.1 0)), (0, .ref b)]) hx hb dL_law_2068 hl (by decide) rfl (fun ls hl => ?_)
  refine lv_aload_n hx hb dL_law_2070 rfl (lv_at hl 5 rfl) ?_
  refine vu_i hP (vu_V S hF hP (h := 26) (hlt 26 (by decide)) rfl (by decide) rfl (c_X6_thrown l P hA (Nat.le_trans (by decide) hn) q2.2) ok_X6_thrown ml_L_132 ⟨Nat.le_of_ble_eq_true rfl, Nat.le_of_ble_eq_true rfl⟩ rfl hl.1 rfl (Nat.le_of_ble_eq_true rfl) dL_law_2071 ⟨by omega, by omega⟩) (fun H locs _ hP => ?_)
  refine lv_iload hx hb dL_law_2074 (lv_at hl 1 rfl) ?_
  obtain ⟨ck3, h⟩ := chk h
  refine lv_icmp_eq (tgt := 2081) hx hb dL_law_2076 (by decide) (fun _ => ?_) (fun c9 => absurd ck3 c9)
  refine lv_iload hx hb dL_law_2081 (lv_at hl 1 rfl) ?_
  obtain ⟨ck5, h⟩ := chk h
  obtain rfl := Option.some.inj h
  refine lv_if_ne (tgt := 2098) hx hb dL_law_2083 (by decide) (fun c4 => ?_) (fun c4 => ?_)
  · refine lv_goto (tgt := 2158) hx hb dL_law_2098 (by decide) ?_
    refine W.widen (k := cells + 2) (n := slots + 12) (by omega) (by omega) ?_
    exact kk _ _ _ hP (lv_sub hl [2, 3, 4, 5, 6, 7] rfl)
  · refine lv_aload_n hx hb dL_law_2086 rfl (lv_at hl 4 rfl) ?_
    refine lv_iconst (v := 0) hx hb dL_law_2087 (by decide) ?_
    refine vt_laldK (n := 1) 0 (by decide) S hF hP (hlt 36 (by decide)) rfl (by decide) dL_law_2088 ?_
    refine lv_iload hx hb dL_law_2089 (lv_at hl 0 rfl) ?_
    refine lv_i2l hx hb dL_law_2091 rfl ?_
    refine W.lcmp hx hb dL_law_2092 ?_
    refine lv_if_eq (tgt := 2098) hx hb dL_law_2093 (by decide) (fun _ => ?_) (fun c9 => absurd (ck5 c4) c9)
    refine lv_goto (tgt := 2158) hx hb dL_law_2098 (by decide) ?_
    refine W.widen (k := cells + 2) (n := slots + 12) (by omega) (by omega) ?_
    exact kk _ _ _ hP (lv_sub hl [2, 3, 4, 5, 6, 7] rfl)
set_option maxRecDepth 100000 in
set_option maxHeartbeats 4000000 in
theorem k_37 {p : Program} {l : Launch} {e : Env} {s : State} {m : MethodId} {args : Array Value} {below : List Frame} {meth : Method} {c : Code} {Q : State → Prop} {P : Pl} {b L : Nat} {xs : Nat → Int32} {c0 : Cond} {i : Int32} (hst : l.stackTraces = false) (hA : Adr P) (hn : 38 ≤ P.2.2.2.1) (S : CallFix p m c cL_law 10 s args (c0 :: ALLW) RL) (hF : Fx P s) (hX : va_X b L xs s s.heap) (hbl : b < s.heap.size) (hbA : ¬ Ab P.2.2.2.2.1 b) (h1 : vp_in (i + 1) L) (h2 : vp_in (i + 2) L) (h3 : vp_in (i + 3) L) {w w' : Wo} {H : Heap} {locs : List Loc} {cells slots : Nat} {ls : Array Slot} (h : F_K_37 w (xs (Int32.toNatClampNeg (i + 1))) (xs (Int32.toNatClampNeg (i + 2))) (xs (Int32.toNatClampNeg (i + 3))) = some w') (hP : St P s w H locs) (hl : lv_has ls 10 (lvL P b i)) (hc : cells + 2 ≤ room_1.cells) (hs : slots + 12 ≤ room_1.slots)
    (kk : ∀ (H1 : Heap) (locs1 : List Loc) (ls1 : Array Slot), St P s w' H1 locs1 → lv_has ls1 10 (lvL P b i) → W p l e room_1 s m args below meth c H1 locs1 (cells + 2) (slots + 12) Q (F0 m 2158 ls1 [])) : W p l e room_1 s m args below meth c H locs cells slots Q (F0 m 2101 ls []) := by
  have hx := S.1
  have hb := S.2.1
  have hlt : ∀ h, h < 38 → h < P.2.2.2.1 := fun h q => Nat.lt_of_lt_of_le q hn
  unfold F_K_37 at h
  refine lv_aload_n hx hb dL_law_2101 rfl (lv_at hl 4 rfl) ?_
  obtain ⟨q1, hq1, h⟩ := ob h
  refine vu_i hP (vu_V S hF hP (h := 0) (hlt 0 (by decide)) rfl (by decide) rfl (c_X5_save l P hA (Nat.le_trans (by decide) hn) w hq1) ok_X5_save ml_L_260 ⟨Nat.le_of_ble_eq_true rfl, Nat.le_of_ble_eq_true rfl⟩ rfl hl.1 rfl (Nat.le_of_ble_eq_true rfl) dL_law_2102 ⟨by omega, by omega⟩) (fun H locs _ hP => ?_)
  refine lv_aload_n hx hb dL_law_2105 rfl (lv_at hl 3 rfl) ?_
  obtain ⟨q2, hq2, h⟩ := ob h
  refine vu_i hP (vu_V S hF hP (h := 26) (hlt 26 (by decide)) rfl (by decide) rfl (c_X6_save l P hA (Nat.le_trans (by decide) hn) q1.2 hq2) ok_X6_save ml_L_263 ⟨Nat.le_of_ble_eq_true rfl, Nat.le_of_ble_eq_true rfl⟩ rfl hl.1 rfl (Nat.le_of_ble_eq_true rfl) dL_law_2106 ⟨by omega, by omega⟩) (fun H locs _ hP => ?_)
  obtain ⟨ck3, h⟩ := chk h
  refine lv_icmp_eq (tgt := 2158) hx hb dL_law_2109 (by decide) (fun _ => ?_) (fun c9 => absurd ck3 c9)
  refine W.widen (k := cells + 2) (n := slots + 12) (by omega) (by omega) ?_
  obtain rfl := Option.some.inj h
  exact kk _ _ _ hP (lv_sub hl [0, 1, 2, 3, 4, 5] rfl)
set_option maxRecDepth 100000 in
set_option maxHeartbeats 4000000 in
theorem k_38 {p : Program} {l : Launch} {e : Env} {s : State} {m : MethodId} {args : Array Value} {below : List Frame} {meth : Method} {c : Code} {Q : State → Prop} {P : Pl} {b L : Nat} {xs : Nat → Int32} {c0 : Cond} {i : Int32} (hst : l.stackTraces = false) (hA : Adr P) (hn : 38 ≤ P.2.2.2.1) (S : CallFix p m c cL_law 10 s args (c0 :: ALLW) RL) (hF : Fx P s) (hX : va_X b L xs s s.heap) (hbl : b < s.heap.size) (hbA : ¬ Ab P.2.2.2.2.1 b) (h1 : vp_in (i + 1) L) (h2 : vp_in (i + 2) L) (h3 : vp_in (i + 3) L) {w w' : Wo} {H : Heap} {locs : List Loc} {cells slots : Nat} {ls : Array Slot} (h : F_K_38 w (xs (Int32.toNatClampNeg (i + 1))) (xs (Int32.toNatClampNeg (i + 2))) (xs (Int32.toNatClampNeg (i + 3))) = some w') (hP : St P s w H locs) (hl : lv_has ls 10 (lvL P b i)) (hc : cells + 2 ≤ room_1.cells) (hs : slots + 12 ≤ room_1.slots)
    (kk : ∀ (H1 : Heap) (locs1 : List Loc) (ls1 : Array Slot), St P s w' H1 locs1 → lv_has ls1 10 (lvL P b i) → W p l e room_1 s m args below meth c H1 locs1 (cells + 2) (slots + 12) Q (F0 m 2158 ls1 [])) : W p l e room_1 s m args below meth c H locs cells slots Q (F0 m 2114 ls []) := by
  have hx := S.1
  have hb := S.2.1
  have hlt : ∀ h, h < 38 → h < P.2.2.2.1 := fun h q => Nat.lt_of_lt_of_le q hn
  unfold F_K_38 at h
  refine lv_aload_n hx hb dL_law_2114 rfl (lv_at hl 4 rfl) ?_
  refine lv_aload_n hx hb dL_law_2115 rfl (lv_at hl 2 rfl) ?_
  obtain ⟨q1, hq1, h⟩ := ob h
  refine vu_SW S hF hP (c_L_restore l P hA hn hst w hq1) ok_L_restore ml_L_264 ⟨Nat.le_of_ble_eq_true rfl, Nat.le_of_ble_eq_true rfl⟩ rfl hl.1 rfl (Nat.le_of_ble_eq_true rfl) dL_law_2116 ⟨by omega, by omega⟩ (fun H locs hP => ?_)
  refine lv_istore (lv' := [(6, .int q1.1), (5, .int i), (4, .ref (P.2.1 37)), (3, .ref (P.2.1 36)), (2, .ref (P.2.1 26)), (1, .ref (P.2.1 0)), (0, .ref b)]) hx hb dL_law_2119 hl (by decide) rfl (fun ls hl => ?_)
  refine lv_aload_n hx hb dL_law_2121 rfl (lv_at hl 4 rfl) ?_
  obtain ⟨q2, hq2, h⟩ := ob h
  refine vu_i hP (vu_V S hF hP (h := 26) (hlt 26 (by decide)) rfl (by decide) rfl (c_X6_restore l P hA (Nat.le_trans (by decide) hn) q1.2 hq2) ok_X6_restore ml_L_266 ⟨Nat.le_of_ble_eq_true rfl, Nat.le_of_ble_eq_true rfl⟩ rfl hl.1 rfl (Nat.le_of_ble_eq_true rfl) dL_law_2122 ⟨by omega, by omega⟩) (fun H locs _ hP => ?_)
  refine lv_istore (lv' := [(7, .int q2.1), (6, .int q1.1), (5, .int i), (4, .ref (P.2.1 37)), (3, .ref (P.2.1 36)), (2, .ref (P.2.1 26)), (1, .ref (P.2.1 0)), (0, .ref b)]) hx hb dL_law_2125 hl (by decide) rfl (fun ls hl => ?_)
  refine lv_aload_n hx hb dL_law_2127 rfl (lv_at hl 5 rfl) ?_
  refine vu_i hP (vu_V S hF hP (h := 26) (hlt 26 (by decide)) rfl (by decide) rfl (c_X6_thrown l P hA (Nat.le_trans (by decide) hn) q2.2) ok_X6_thrown ml_L_132 ⟨Nat.le_of_ble_eq_true rfl, Nat.le_of_ble_eq_true rfl⟩ rfl hl.1 rfl (Nat.le_of_ble_eq_true rfl) dL_law_2128 ⟨by omega, by omega⟩) (fun H locs _ hP => ?_)
  refine lv_iload hx hb dL_law_2131 (lv_at hl 1 rfl) ?_
  obtain ⟨ck3, h⟩ := chk h
  refine lv_icmp_eq (tgt := 2138) hx hb dL_law_2133 (by decide) (fun _ => ?_) (fun c9 => absurd ck3 c9)
  refine lv_iload hx hb dL_law_2138 (lv_at hl 1 rfl) ?_
  obtain ⟨ck5, h⟩ := chk h
  obtain rfl := Option.some.inj h
  refine lv_if_ne (tgt := 2155) hx hb dL_law_2140 (by decide) (fun c4 => ?_) (fun c4 => ?_)
  · refine lv_goto (tgt := 2158) hx hb dL_law_2155 (by decide) ?_
    refine W.widen (k := cells + 2) (n := slots + 12) (by omega) (by omega) ?_
    exact kk _ _ _ hP (lv_sub hl [2, 3, 4, 5, 6, 7] rfl)
  · refine lv_aload_n hx hb dL_law_2143 rfl (lv_at hl 4 rfl) ?_
    refine lv_iconst (v := 0) hx hb dL_law_2144 (by decide) ?_
    refine vt_laldK (n := 1) 0 (by decide) S hF hP (hlt 36 (by decide)) rfl (by decide) dL_law_2145 ?_
    refine lv_iload hx hb dL_law_2146 (lv_at hl 0 rfl) ?_
    refine lv_i2l hx hb dL_law_2148 rfl ?_
    refine W.lcmp hx hb dL_law_2149 ?_
    refine lv_if_eq (tgt := 2155) hx hb dL_law_2150 (by decide) (fun _ => ?_) (fun c9 => absurd (ck5 c4) c9)
    refine lv_goto (tgt := 2158) hx hb dL_law_2155 (by decide) ?_
    refine W.widen (k := cells + 2) (n := slots + 12) (by omega) (by omega) ?_
    exact kk _ _ _ hP (lv_sub hl [2, 3, 4, 5, 6, 7] rfl)
