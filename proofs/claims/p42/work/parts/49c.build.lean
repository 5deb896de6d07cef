/-! THE LAW: build (written by wip/p42/bld.py) -/
theorem ml_L_23 : Cond.methodLink RL 23 yX5_init ∈ ALLW := inA 65 (by decide +kernel) (by decide +kernel)
theorem ok_X5_init : okI yX5_init cX5_init 1 0 := ⟨inA 66 (by decide +kernel) (by decide +kernel), inA 35 (by decide +kernel) (by decide +kernel), inA 67 (by decide +kernel) (by decide +kernel), by decide +kernel, by decide +kernel, by decide +kernel, rfl⟩
theorem kl_L_18 : Cond.classLink RL 18 RX5 ∈ ALLW := inA 63 (by decide +kernel) (by decide +kernel)
theorem in_X5 : Cond.instantiable RX5 13 ∈ ALLW := inA 64 (by decide +kernel) (by decide +kernel)
theorem ii_X5 : Cond.initialized RX5 ∈ ALLW := inA 35 (by decide +kernel) (by decide +kernel)
def bGoals : Nat → Wo → Int32 → Int32 → Option Wo
  | 0, _, _, _ => none
  | n + 1, w, x7, x3 => if x3 ≤ x7 then (some w) else ((F_X5_letter w x7).bind fun q1 => (Sum.elim (fun _ => none) (fun v2 => ((F_L_act v2.2 2 x7 0 v2.1).bind fun q3 => (bGoals n q3.2 (x7 + 1) x3))) q1))
set_option maxRecDepth 100000 in
set_option maxHeartbeats 4000000 in
theorem g_build {c0 : Cond} {p : Program} {l : Launch} {e : Env} {s : State} {m : MethodId} {args : Array Value} {below : List Frame} {meth : Method} {c : Code} {Q : State → Prop} {b : Nat} (P : Pl) (hA : Adr P) (hn : 26 ≤ P.2.2.2.1) (hst : l.stackTraces = false) (S : CallFix p m c cL_build 8 s args (c0 :: ALLW) RL) (hF : Fx P s) {x3 x4 x5 x6 : Int32} : ∀ (n b9 s9 : Nat), b9 + 2 * n ≤ 560 → s9 + 12 * n ≤ 4200 → ∀ {r : Wo} (K : ∀ (k9 t9 : Nat), k9 ≤ b9 + 2 * n → t9 ≤ s9 + 12 * n → ∀ (H : Heap) (locs : List Loc) (ls : Array Slot), St P s r H locs → lv_has ls 8 [(0, .ref b), (1, .ref (P.2.1 0)), (3, .int x3), (4, .int x4), (5, .int x5), (6, .int x6)] → W p l e (rmU 10 560 4200) s m args below meth c H locs k9 t9 Q (F0 m 349 ls [])) (w : Wo) (x7 : Int32), bGoals n w x7 x3 = some r → ∀ (H : Heap) (locs : List Loc) (ls : Array Slot), St P s w H locs → lv_has ls 8 [(0, .ref b), (1, .ref (P.2.1 0)), (3, .int x3), (4, .int x4), (5, .int x5), (6, .int x6), (7, .int x7)] → W p l e (rmU 10 560 4200) s m args below meth c H locs b9 s9 Q (F0 m 322 ls []) := by
  have hlt : ∀ h, h < 26 → h < P.2.2.2.1 := fun h q => Nat.lt_of_lt_of_le q hn
  have hx := S.1
  have hb := S.2.1
  intro n
  induction n with
  | zero =>
    intro b9 s9 _ _ r K w x7 h
    cases h
  | succ n ih0 =>
    intro b9 s9 hb9 hs9 r K w x7 h H locs ls hP hl
    unfold bGoals at h
    refine lv_iload hx hb dL_build_322 (lv_at hl 6 rfl) ?_
    refine lv_iload_n hx hb dL_build_324 rfl (lv_at hl 2 rfl) ?_
    refine lv_icmp_ge (tgt := 349) hx hb dL_build_325 (by decide) (fun c4 => ?_) (fun c4 => ?_)
    · rw [if_pos c4] at h
      obtain rfl := Option.some.inj h
      exact K _ _ (by omega) (by omega) _ _ _ hP (lv_sub hl [0, 1, 2, 3, 4, 5] rfl)
    · rw [if_neg c4] at h
      refine lv_aload_n hx hb dL_build_328 rfl (lv_at hl 1 rfl) ?_
      refine lv_iconst (v := 2) hx hb dL_build_329 (by decide) ?_
      refine lv_iload hx hb dL_build_330 (lv_at hl 6 rfl) ?_
      refine lv_iconst (v := 0) hx hb dL_build_332 (by decide) ?_
      refine lv_aload_n hx hb dL_build_333 rfl (lv_at hl 1 rfl) ?_
      refine lv_iload hx hb dL_build_334 (lv_at hl 6 rfl) ?_
      obtain ⟨q1, hq1, h⟩ := ob h
      cases q1 with
      | inl u => cases h
      | inr v2 =>
        rw [Sum.elim_inr] at h
        refine vu_i hP (vu_V S hF hP (h := 0) (hlt _ (by decide)) rfl (by decide) rfl (n_X5_letter l P hA hn w x7 hq1) ok_X5_letter ml_L_41 ⟨Nat.le_of_ble_eq_true rfl, Nat.le_of_ble_eq_true rfl⟩ rfl hl.1 rfl (Nat.le_of_ble_eq_true rfl) dL_build_336 ⟨(by show _ ≤ 560; omega), (by show _ ≤ 4200; omega)⟩) (fun H locs hov2 hP => ?_)
        try dsimp only at h
        obtain ⟨q3, hq3, h⟩ := ob h
        refine vu_SW S hF hP (c_L_act l P hA hn hst v2.2 2 x7 0 v2.1 hq3) ok_L_act ml_L_30 ⟨Nat.le_of_ble_eq_true rfl, Nat.le_of_ble_eq_true rfl⟩ rfl hl.1 rfl (Nat.le_of_ble_eq_true rfl) dL_build_339 ⟨(by show _ ≤ 560; omega), (by show _ ≤ 4200; omega)⟩ (fun H locs hP => ?_)
        refine lv_pop hx hb dL_build_342 rfl ?_
        refine lv_iinc (v := (x7 + 1)) (lv' := [(7, .int (x7 + 1)), (0, .ref b), (1, .ref (P.2.1 0)), (3, .int x3), (4, .int x4), (5, .int x5), (6, .int x6)]) hx hb dL_build_343 hl (k := 6) rfl rfl (by decide) rfl (fun ls hl => ?_)
        refine lv_goto (tgt := 322) hx hb dL_build_346 (by decide) ?_
        exact ih0 _ _ (by omega) (by omega) (r := r) (fun k8 t8 h8 h9 => K k8 t8 (by omega) (by omega)) _ _ h _ _ _ hP (lv_sub hl [1, 2, 3, 4, 5, 6, 0] rfl)
def B_L_build_349 (w : Wo) (x3 : Int32) (x4 : Int32) (x5 : Int32) (x6 : Int32) : Option ((Wo)) := if ((jshr x5 (22 : Int32)) &&& (3 : Int32)) = 0 then (jchk (¬ x6 = 0) ((F_L_act w 3 (jrem ((jshr x5 (24 : Int32)) &&& (15 : Int32)) x6) 0 32).bind fun q4 => (some q4.2))) else (some w)
def B_L_build_309 (w : Wo) (x3 : Int32) (x4 : Int32) (x5 : Int32) (x6 : Int32) : Option ((Wo)) := if ((jshr x5 (20 : Int32)) &&& (3 : Int32)) = 0 then ((bGoals 10 w 0 x3).bind fun q5 => (B_L_build_349 q5 x3 x4 x5 x6)) else (B_L_build_349 w x3 x4 x5 x6)
def B_L_build_270 (w : Wo) (x3 : Int32) (x4 : Int32) (x5 : Int32) (x6 : Int32) : Option ((Wo)) := if ((jshr x5 (4 : Int32)) &&& (15 : Int32)) = (11 : Int32) then ((F_L_act w 6 ((jshr x5 (8 : Int32)) &&& (511 : Int32)) ((1 : Int32) + ((jshr x5 (17 : Int32)) &&& (3 : Int32))) 32).bind fun q6 => (B_L_build_309 q6.2 x3 x4 x5 x6)) else (B_L_build_309 w x3 x4 x5 x6)
def B_L_build_237 (w : Wo) (x3 : Int32) (x4 : Int32) (x5 : Int32) (x6 : Int32) : Option ((Wo)) := if ((jshr x5 (4 : Int32)) &&& (15 : Int32)) = (3 : Int32) then (jchk (¬ (x6 / 2) = 0) ((F_L_act w 5 (jrem ((jshr x5 (8 : Int32)) &&& (7 : Int32)) (x6 / 2)) 0 32).bind fun q7 => (B_L_build_270 q7.2 x3 x4 x5 x6))) else (B_L_build_270 w x3 x4 x5 x6)
def B_L_build_198 (w : Wo) (x3 : Int32) (x4 : Int32) (x5 : Int32) (x6 : Int32) : Option ((Wo)) := if ((jshr x5 (4 : Int32)) &&& (15 : Int32)) = (2 : Int32) then (jchk (¬ x3 = 0) (jchk (¬ x3 = 0) ((F_L_act w 4 (jrem ((jshr x5 (8 : Int32)) &&& (15 : Int32)) x3) (jrem ((jshr x5 (12 : Int32)) &&& (15 : Int32)) x3) 32).bind fun q8 => (B_L_build_237 q8.2 x3 x4 x5 x6)))) else (B_L_build_237 w x3 x4 x5 x6)
def B_L_build_194 (w : Wo) (x3 : Int32) (x4 : Int32) (x5 : Int32) (x6 : Int32) (t0 : Int32) (t1 : Int32) (t2 : Int32) (t3 : Int32) : Option ((Wo)) := (F_L_act w t3 t2 t1 t0).bind fun q9 => (B_L_build_198 q9.2 x3 x4 x5 x6)
def B_L_build_140 (w : Wo) (x3 : Int32) (x4 : Int32) (x5 : Int32) (x6 : Int32) : Option ((Wo)) := if ((jshr x5 (4 : Int32)) &&& (7 : Int32)) = (1 : Int32) then (jchk (¬ x3 = 0) (if ((jshr x5 (11 : Int32)) &&& (3 : Int32)) = 0 then (B_L_build_194 w x3 x4 x5 x6 46 0 (jrem ((jshr x5 (7 : Int32)) &&& (15 : Int32)) x3) 2) else (B_L_build_194 w x3 x4 x5 x6 (ji2c ((97 : Int32) + (jrem ((jshr x5 (11 : Int32)) &&& (15 : Int32)) (12 : Int32)))) 0 (jrem ((jshr x5 (7 : Int32)) &&& (15 : Int32)) x3) 2))) else (B_L_build_198 w x3 x4 x5 x6)
def F_L_round (w : Wo) (x3 x4 x5 : Int32) : Option Wo := (F_X5_boardOf w 2).bind fun q1 => (Sum.elim (fun _ => none) (fun v2 => (jchk (¬ v2.1 = 0) ((F_L_act v2.2 3 (jrem (x5 &&& (15 : Int32)) v2.1) 0 32).bind fun q3 => (if ((jshr x5 (4 : Int32)) &&& (7 : Int32)) = 0 then (jchk (¬ x3 = 0) ((F_L_act q3.2 1 (jrem ((jshr x5 (7 : Int32)) &&& (15 : Int32)) x3) 0 (ji2c ((97 : Int32) + (jrem ((jshr x5 (11 : Int32)) &&& (15 : Int32)) (12 : Int32))))).bind fun q10 => (B_L_build_140 q10.2 x3 x4 x5 v2.1))) else (B_L_build_140 q3.2 x3 x4 x5 v2.1))))) q1)
set_option maxRecDepth 100000 in
set_option maxHeartbeats 4000000 in
theorem r_build {c0 : Cond} {p : Program} {l : Launch} {e : Env} {s : State} {m : MethodId} {args : Array Value} {below : List Frame} {meth : Method} {c : Code} {Q : State → Prop} {b : Nat} (P : Pl) (hA : Adr P) (hn : 26 ≤ P.2.2.2.1) (hst : l.stackTraces = false) (S : CallFix p m c cL_build 8 s args (c0 :: ALLW) RL) (hF : Fx P s) {x3 x4 : Int32} {b9 s9 : Nat} (hb9 : b9 + 40 ≤ 560) (hs9 : s9 + 240 ≤ 4200) {r : Wo} (K : ∀ (H : Heap) (locs : List Loc) (ls : Array Slot), St P s r H locs → lv_has ls 8 [(0, .ref b), (1, .ref (P.2.1 0)), (3, .int x3), (4, .int x4)] → W p l e (rmU 10 560 4200) s m args below meth c H locs (b9 + 40) (s9 + 240) Q (F0 m 379 ls [])) (w : Wo) (x5 : Int32) (h : F_L_round w x3 x4 x5 = some r) (H : Heap) (locs : List Loc) (ls : Array Slot) (hP : St P s w H locs) (hl : lv_has ls 8 [(0, .ref b), (1, .ref (P.2.1 0)), (3, .int x3), (4, .int x4)]) : W p l e (rmU 10 560 4200) s m args below meth c H locs b9 s9 Q (F0 m 72 ls [.int x5]) := by
  have hlt : ∀ h, h < 26 → h < P.2.2.2.1 := fun h q => Nat.lt_of_lt_of_le q hn
  have hx := S.1
  have hb := S.2.1
  have hB349 : ∀ (w : Wo) (x5 : Int32) (x6 : Int32), B_L_build_349 w x3 x4 x5 x6 = some r → ∀ (H : Heap) (locs : List Loc) (ls : Array Slot), St P s w H locs → lv_has ls 8 [(0, .ref b), (1, .ref (P.2.1 0)), (3, .int x3), (4, .int x4), (5, .int x5), (6, .int x6)] → W p l e (rmU 10 560 4200) s m args below meth c H locs (b9 + 34) (s9 + 204) Q (F0 m 349 ls []) := by
    intro w x5 x6 h H locs ls hP hl
    unfold B_L_build_349 at h
    refine lv_iload hx hb dL_build_349 (lv_at hl 4 rfl) ?_
    refine lv_bipush (v := 22) hx hb dL_build_351 (by decide) ?_
    refine lv_ishr hx hb dL_build_353 ?_
    refine lv_iconst (v := 3) hx hb dL_build_354 (by decide) ?_
    refine lv_iand hx hb dL_build_355 ?_
    refine lv_if_ne (tgt := 379) hx hb dL_build_356 (by decide) (fun c11 => ?_) (fun c11 => ?_)
    · rw [if_neg c11] at h
      obtain rfl := Option.some.inj h
      refine W.widen (k := b9 + 40) (n := s9 + 240) (by omega) (by omega) ?_
      exact K _ _ _ hP (lv_sub hl [0, 1, 2, 3] rfl)
    · rw [if_pos c11] at h
      refine lv_aload_n hx hb dL_build_359 rfl (lv_at hl 1 rfl) ?_
      refine lv_iconst (v := 3) hx hb dL_build_360 (by decide) ?_
      refine lv_iload hx hb dL_build_361 (lv_at hl 4 rfl) ?_
      refine lv_bipush (v := 24) hx hb dL_build_363 (by decide) ?_
      refine lv_ishr hx hb dL_build_365 ?_
      refine lv_bipush (v := 15) hx hb dL_build_366 (by decide) ?_
      refine lv_iand hx hb dL_build_368 ?_
      refine lv_iload hx hb dL_build_369 (lv_at hl 5 rfl) ?_
      obtain ⟨c12, h⟩ := chk h
      refine lv_irem hx hb dL_build_371 c12 ?_
      refine lv_iconst (v := 0) hx hb dL_build_372 (by decide) ?_
      refine lv_bipush (v := 32) hx hb dL_build_373 (by decide) ?_
      obtain ⟨q4, hq4, h⟩ := ob h
      refine vu_SW S hF hP (c_L_act l P hA hn hst w 3 (jrem ((jshr x5 (24 : Int32)) &&& (15 : Int32)) x6) 0 32 hq4) ok_L_act ml_L_30 ⟨Nat.le_of_ble_eq_true rfl, Nat.le_of_ble_eq_true rfl⟩ rfl hl.1 rfl (Nat.le_of_ble_eq_true rfl) dL_build_375 ⟨(by show _ ≤ 560; omega), (by show _ ≤ 4200; omega)⟩ (fun H locs hP => ?_)
      refine lv_pop hx hb dL_build_378 rfl ?_
      obtain rfl := Option.some.inj h
      refine W.widen (k := b9 + 40) (n := s9 + 240) (by omega) (by omega) ?_
      exact K _ _ _ hP (lv_sub hl [0, 1, 2, 3] rfl)
  have hB309 : ∀ (w : Wo) (x5 : Int32) (x6 : Int32), B_L_build_309 w x3 x4 x5 x6 = some r → ∀ (H : Heap) (locs : List Loc) (ls : Array Slot), St P s w H locs → lv_has ls 8 [(0, .ref b), (1, .ref (P.2.1 0)), (3, .int x3), (4, .int x4), (5, .int x5), (6, .int x6)] → W p l e (rmU 10 560 4200) s m args below meth c H locs (b9 + 12) (s9 + 72) Q (F0 m 309 ls []) := by
    intro w x5 x6 h H locs ls hP hl
    unfold B_L_build_309 at h
    refine lv_iload hx hb dL_build_309 (lv_at hl 4 rfl) ?_
    refine lv_bipush (v := 20) hx hb dL_build_311 (by decide) ?_
    refine lv_ishr hx hb dL_build_313 ?_
    refine lv_iconst (v := 3) hx hb dL_build_314 (by decide) ?_
    refine lv_iand hx hb dL_build_315 ?_
    refine lv_if_ne (tgt := 349) hx hb dL_build_316 (by decide) (fun c13 => ?_) (fun c13 => ?_)
    · rw [if_neg c13] at h
      refine W.widen (k := b9 + 34) (n := s9 + 204) (by omega) (by omega) ?_
      exact hB349 _ _ _ h _ _ _ hP (lv_sub hl [0, 1, 2, 3, 4, 5] rfl)
    · rw [if_pos c13] at h
      refine lv_iconst (v := 0) hx hb dL_build_319 (by decide) ?_
      refine lv_istore (lv' := [(7, .int 0), (0, .ref b), (1, .ref (P.2.1 0)), (3, .int x3), (4, .int x4), (5, .int x5), (6, .int x6)]) hx hb dL_build_320 hl (by decide) rfl (fun ls hl => ?_)
      obtain ⟨q5, hq5, h⟩ := ob h
      refine g_build P hA hn hst S hF (x4 := x4) (x5 := x5) (x6 := x6) 10 _ _ (by omega) (by omega) (fun k9 t9 hk9 ht9 H locs ls hP hl => ?_) _ _ hq5 _ _ _ hP (lv_sub hl [1, 2, 3, 4, 5, 6, 0] rfl)
      refine W.widen (k := b9 + 34) (n := s9 + 204) (by omega) (by omega) ?_
      exact hB349 _ _ _ h _ _ _ hP (lv_sub hl [0, 1, 2, 3, 4, 5] rfl)
  have hB270 : ∀ (w : Wo) (x5 : Int32) (x6 : Int32), B_L_build_270 w x3 x4 x5 x6 = some r → ∀ (H : Heap) (locs : List Loc) (ls : Array Slot), St P s w H locs → lv_has ls 8 [(0, .ref b), (1, .ref (P.2.1 0)), (3, .int x3), (4, .int x4), (5, .int x5), (6, .int x6)] → W p l e (rmU 10 560 4200) s m args below meth c H locs (b9 + 10) (s9 + 60) Q (F0 m 270 ls []) := by
    intro w x5 x6 h H locs ls hP hl
    unfold B_L_build_270 at h
    refine lv_iload hx hb dL_build_270 (lv_at hl 4 rfl) ?_
    refine lv_iconst (v := 4) hx hb dL_build_272 (by decide) ?_
    refine lv_ishr hx hb dL_build_273 ?_
    refine lv_bipush (v := 15) hx hb dL_build_274 (by decide) ?_
    refine lv_iand hx hb dL_build_276 ?_
    refine lv_bipush (v := 11) hx hb dL_build_277 (by decide) ?_
    refine lv_icmp_ne (tgt := 309) hx hb dL_build_279 (by decide) (fun c14 => ?_) (fun c14 => ?_)
    · rw [if_neg c14] at h
      refine W.widen (k := b9 + 12) (n := s9 + 72) (by omega) (by omega) ?_
      exact hB309 _ _ _ h _ _ _ hP (lv_sub hl [0, 1, 2, 3, 4, 5] rfl)
    · rw [if_pos c14] at h
      refine lv_aload_n hx hb dL_build_282 rfl (lv_at hl 1 rfl) ?_
      refine lv_bipush (v := 6) hx hb dL_build_283 (by decide) ?_
      refine lv_iload hx hb dL_build_285 (lv_at hl 4 rfl) ?_
      refine lv_bipush (v := 8) hx hb dL_build_287 (by decide) ?_
      refine lv_ishr hx hb dL_build_289 ?_
      refine lv_sipush (v := 511) hx hb dL_build_290 (by decide) ?_
      refine lv_iand hx hb dL_build_293 ?_
      refine lv_iconst (v := 1) hx hb dL_build_294 (by decide) ?_
      refine lv_iload hx hb dL_build_295 (lv_at hl 4 rfl) ?_
      refine lv_bipush (v := 17) hx hb dL_build_297 (by decide) ?_
      refine lv_ishr hx hb dL_build_299 ?_
      refine lv_iconst (v := 3) hx hb dL_build_300 (by decide) ?_
      refine lv_iand hx hb dL_build_301 ?_
      refine lv_iadd hx hb dL_build_302 ?_
      refine lv_bipush (v := 32) hx hb dL_build_303 (by decide) ?_
      obtain ⟨q6, hq6, h⟩ := ob h
      refine vu_SW S hF hP (c_L_act l P hA hn hst w 6 ((jshr x5 (8 : Int32)) &&& (511 : Int32)) ((1 : Int32) + ((jshr x5 (17 : Int32)) &&& (3 : Int32))) 32 hq6) ok_L_act ml_L_30 ⟨Nat.le_of_ble_eq_true rfl, Nat.le_of_ble_eq_true rfl⟩ rfl hl.1 rfl (Nat.le_of_ble_eq_true rfl) dL_build_305 ⟨(by show _ ≤ 560; omega), (by show _ ≤ 4200; omega)⟩ (fun H locs hP => ?_)
      refine lv_pop hx hb dL_build_308 rfl ?_
      refine W.widen (k := b9 + 12) (n := s9 + 72) (by omega) (by omega) ?_
      exact hB309 _ _ _ h _ _ _ hP (lv_sub hl [0, 1, 2, 3, 4, 5] rfl)
  have hB237 : ∀ (w : Wo) (x5 : Int32) (x6 : Int32), B_L_build_237 w x3 x4 x5 x6 = some r → ∀ (H : Heap) (locs : List Loc) (ls : Array Slot), St P s w H locs → lv_has ls 8 [(0, .ref b), (1, .ref (P.2.1 0)), (3, .int x3), (4, .int x4), (5, .int x5), (6, .int x6)] → W p l e (rmU 10 560 4200) s m args below meth c H locs (b9 + 8) (s9 + 48) Q (F0 m 237 ls []) := by
    intro w x5 x6 h H locs ls hP hl
    unfold B_L_build_237 at h
    refine lv_iload hx hb dL_build_237 (lv_at hl 4 rfl) ?_
    refine lv_iconst (v := 4) hx hb dL_build_239 (by decide) ?_
    refine lv_ishr hx hb dL_build_240 ?_
    refine lv_bipush (v := 15) hx hb dL_build_241 (by decide) ?_
    refine lv_iand hx hb dL_build_243 ?_
    refine lv_iconst (v := 3) hx hb dL_build_244 (by decide) ?_
    refine lv_icmp_ne (tgt := 270) hx hb dL_build_245 (by decide) (fun c15 => ?_) (fun c15 => ?_)
    · rw [if_neg c15] at h
      refine W.widen (k := b9 + 10) (n := s9 + 60) (by omega) (by omega) ?_
      exact hB270 _ _ _ h _ _ _ hP (lv_sub hl [0, 1, 2, 3, 4, 5] rfl)
    · rw [if_pos c15] at h
      refine lv_aload_n hx hb dL_build_248 rfl (lv_at hl 1 rfl) ?_
      refine lv_iconst (v := 5) hx hb dL_build_249 (by decide) ?_
      refine lv_iload hx hb dL_build_250 (lv_at hl 4 rfl) ?_
      refine lv_bipush (v := 8) hx hb dL_build_252 (by decide) ?_
      refine lv_ishr hx hb dL_build_254 ?_
      refine lv_bipush (v := 7) hx hb dL_build_255 (by decide) ?_
      refine lv_iand hx hb dL_build_257 ?_
      refine lv_iload hx hb dL_build_258 (lv_at hl 5 rfl) ?_
      refine lv_iconst (v := 2) hx hb dL_build_260 (by decide) ?_
      refine lv_idiv hx hb dL_build_261 (by decide) ?_
      obtain ⟨c16, h⟩ := chk h
      refine lv_irem hx hb dL_build_262 c16 ?_
      refine lv_iconst (v := 0) hx hb dL_build_263 (by decide) ?_
      refine lv_bipush (v := 32) hx hb dL_build_264 (by decide) ?_
      obtain ⟨q7, hq7, h⟩ := ob h
      refine vu_SW S hF hP (c_L_act l P hA hn hst w 5 (jrem ((jshr x5 (8 : Int32)) &&& (7 : Int32)) (x6 / 2)) 0 32 hq7) ok_L_act ml_L_30 ⟨Nat.le_of_ble_eq_true rfl, Nat.le_of_ble_eq_true rfl⟩ rfl hl.1 rfl (Nat.le_of_ble_eq_true rfl) dL_build_266 ⟨(by show _ ≤ 560; omega), (by show _ ≤ 4200; omega)⟩ (fun H locs hP => ?_)
      refine lv_pop hx hb dL_build_269 rfl ?_
      refine W.widen (k := b9 + 10) (n := s9 + 60) (by omega) (by omega) ?_
      exact hB270 _ _ _ h _ _ _ hP (lv_sub hl [0, 1, 2, 3, 4, 5] rfl)
  have hB198 : ∀ (w : Wo) (x5 : Int32) (x6 : Int32), B_L_build_198 w x3 x4 x5 x6 = some r → ∀ (H : Heap) (locs : List Loc) (ls : Array Slot), St P s w H locs → lv_has ls 8 [(0, .ref b), (1, .ref (P.2.1 0)), (3, .int x3), (4, .int x4), (5, .int x5), (6, .int x6)] → W p l e (rmU 10 560 4200) s m args below meth c H locs (b9 + 6) (s9 + 36) Q (F0 m 198 ls []) := by
    intro w x5 x6 h H locs ls hP hl
    unfold B_L_build_198 at h
    refine lv_iload hx hb dL_build_198 (lv_at hl 4 rfl) ?_
    refine lv_iconst (v := 4) hx hb dL_build_200 (by decide) ?_
    refine lv_ishr hx hb dL_build_201 ?_
    refine lv_bipush (v := 15) hx hb dL_build_202 (by decide) ?_
    refine lv_iand hx hb dL_build_204 ?_
    refine lv_iconst (v := 2) hx hb dL_build_205 (by decide) ?_
    refine lv_icmp_ne (tgt := 237) hx hb dL_build_206 (by decide) (fun c17 => ?_) (fun c17 => ?_)
    · rw [if_neg c17] at h
      refine W.widen (k := b9 + 8) (n := s9 + 48) (by omega) (by omega) ?_
      exact hB237 _ _ _ h _ _ _ hP (lv_sub hl [0, 1, 2, 3, 4, 5] rfl)
    · rw [if_pos c17] at h
      refine lv_aload_n hx hb dL_build_209 rfl (lv_at hl 1 rfl) ?_
      refine lv_iconst (v := 4) hx hb dL_build_210 (by decide) ?_
      refine lv_iload hx hb dL_build_211 (lv_at hl 4 rfl) ?_
      refine lv_bipush (v := 8) hx hb dL_build_213 (by decide) ?_
      refine lv_ishr hx hb dL_build_215 ?_
      refine lv_bipush (v := 15) hx hb dL_build_216 (by decide) ?_
      refine lv_iand hx hb dL_build_218 ?_
      refine lv_iload_n hx hb dL_build_219 rfl (lv_at hl 2 rfl) ?_
      obtain ⟨c18, h⟩ := chk h
      refine lv_irem hx hb dL_build_220 c18 ?_
      refine lv_iload hx hb dL_build_221 (lv_at hl 4 rfl) ?_
      refine lv_bipush (v := 12) hx hb dL_build_223 (by decide) ?_
      refine lv_ishr hx hb dL_build_225 ?_
      refine lv_bipush (v := 15) hx hb dL_build_226 (by decide) ?_
      refine lv_iand hx hb dL_build_228 ?_
      refine lv_iload_n hx hb dL_build_229 rfl (lv_at hl 2 rfl) ?_
      obtain ⟨c19, h⟩ := chk h
      refine lv_irem hx hb dL_build_230 c19 ?_
      refine lv_bipush (v := 32) hx hb dL_build_231 (by decide) ?_
      obtain ⟨q8, hq8, h⟩ := ob h
      refine vu_SW S hF hP (c_L_act l P hA hn hst w 4 (jrem ((jshr x5 (8 : Int32)) &&& (15 : Int32)) x3) (jrem ((jshr x5 (12 : Int32)) &&& (15 : Int32)) x3) 32 hq8) ok_L_act ml_L_30 ⟨Nat.le_of_ble_eq_true rfl, Nat.le_of_ble_eq_true rfl⟩ rfl hl.1 rfl (Nat.le_of_ble_eq_true rfl) dL_build_233 ⟨(by show _ ≤ 560; omega), (by show _ ≤ 4200; omega)⟩ (fun H locs hP => ?_)
      refine lv_pop hx hb dL_build_236 rfl ?_
      refine W.widen (k := b9 + 8) (n := s9 + 48) (by omega) (by omega) ?_
      exact hB237 _ _ _ h _ _ _ hP (lv_sub hl [0, 1, 2, 3, 4, 5] rfl)
  have hB194 : ∀ (w : Wo) (x5 : Int32) (x6 : Int32) (t0 : Int32) (t1 : Int32) (t2 : Int32) (t3 : Int32), B_L_build_194 w x3 x4 x5 x6 t0 t1 t2 t3 = some r → ∀ (H : Heap) (locs : List Loc) (ls : Array Slot), St P s w H locs → lv_has ls 8 [(0, .ref b), (1, .ref (P.2.1 0)), (3, .int x3), (4, .int x4), (5, .int x5), (6, .int x6)] → W p l e (rmU 10 560 4200) s m args below meth c H locs (b9 + 4) (s9 + 24) Q (F0 m 194 ls [.int t0, .int t1, .int t2, .int t3, .ref (P.2.1 0)]) := by
    intro w x5 x6 t0 t1 t2 t3 h H locs ls hP hl
    unfold B_L_build_194 at h
    obtain ⟨q9, hq9, h⟩ := ob h
    refine vu_SW S hF hP (c_L_act l P hA hn hst w t3 t2 t1 t0 hq9) ok_L_act ml_L_30 ⟨Nat.le_of_ble_eq_true rfl, Nat.le_of_ble_eq_true rfl⟩ rfl hl.1 rfl (Nat.le_of_ble_eq_true rfl) dL_build_194 ⟨(by show _ ≤ 560; omega), (by show _ ≤ 4200; omega)⟩ (fun H locs hP => ?_)
    refine lv_pop hx hb dL_build_197 rfl ?_
    refine W.widen (k := b9 + 6) (n := s9 + 36) (by omega) (by omega) ?_
    exact hB198 _ _ _ h _ _ _ hP (lv_sub hl [0, 1, 2, 3, 4, 5] rfl)
  have hB140 : ∀ (w : Wo) (x5 : Int32) (x6 : Int32), B_L_build_140 w x3 x4 x5 x6 = some r → ∀ (H : Heap) (locs : List Loc) (ls : Array Slot), St P s w H locs → lv_has ls 8 [(0, .ref b), (1, .ref (P.2.1 0)), (3, .int x3), (4, .int x4), (5, .int x5), (6, .int x6)] → W p l e (rmU 10 560 4200) s m args below meth c H locs (b9 + 4) (s9 + 24) Q (F0 m 140 ls []) := by
    intro w x5 x6 h H locs ls hP hl
    unfold B_L_build_140 at h
    refine lv_iload hx hb dL_build_140 (lv_at hl 4 rfl) ?_
    refine lv_iconst (v := 4) hx hb dL_build_142 (by decide) ?_
    refine lv_ishr hx hb dL_build_143 ?_
    refine lv_bipush (v := 7) hx hb dL_build_144 (by decide) ?_
    refine lv_iand hx hb dL_build_146 ?_
    refine lv_iconst (v := 1) hx hb dL_build_147 (by decide) ?_
    refine lv_icmp_ne (tgt := 198) hx hb dL_build_148 (by decide) (fun c20 => ?_) (fun c20 => ?_)
    · rw [if_neg c20] at h
      refine W.widen (k := b9 + 6) (n := s9 + 36) (by omega) (by omega) ?_
      exact hB198 _ _ _ h _ _ _ hP (lv_sub hl [0, 1, 2, 3, 4, 5] rfl)
    · rw [if_pos c20] at h
      refine lv_aload_n hx hb dL_build_151 rfl (lv_at hl 1 rfl) ?_
      refine lv_iconst (v := 2) hx hb dL_build_152 (by decide) ?_
      refine lv_iload hx hb dL_build_153 (lv_at hl 4 rfl) ?_
      refine lv_bipush (v := 7) hx hb dL_build_155 (by decide) ?_
      refine lv_ishr hx hb dL_build_157 ?_
      refine lv_bipush (v := 15) hx hb dL_build_158 (by decide) ?_
      refine lv_iand hx hb dL_build_160 ?_
      refine lv_iload_n hx hb dL_build_161 rfl (lv_at hl 2 rfl) ?_
      obtain ⟨c21, h⟩ := chk h
      refine lv_irem hx hb dL_build_162 c21 ?_
      refine lv_iconst (v := 0) hx hb dL_build_163 (by decide) ?_
      refine lv_iload hx hb dL_build_164 (lv_at hl 4 rfl) ?_
      refine lv_bipush (v := 11) hx hb dL_build_166 (by decide) ?_
      refine lv_ishr hx hb dL_build_168 ?_
      refine lv_iconst (v := 3) hx hb dL_build_169 (by decide) ?_
      refine lv_iand hx hb dL_build_170 ?_
      refine lv_if_ne (tgt := 179) hx hb dL_build_171 (by decide) (fun c22 => ?_) (fun c22 => ?_)
      · rw [if_neg c22] at h
        refine lv_bipush (v := 97) hx hb dL_build_179 (by decide) ?_
        refine lv_iload hx hb dL_build_181 (lv_at hl 4 rfl) ?_
        refine lv_bipush (v := 11) hx hb dL_build_183 (by decide) ?_
        refine lv_ishr hx hb dL_build_185 ?_
        refine lv_bipush (v := 15) hx hb dL_build_186 (by decide) ?_
        refine lv_iand hx hb dL_build_188 ?_
        refine lv_bipush (v := 12) hx hb dL_build_189 (by decide) ?_
        refine lv_irem hx hb dL_build_191 (by decide) ?_
        refine lv_iadd hx hb dL_build_192 ?_
        refine lv_i2c hx hb dL_build_193 rfl ?_
        refine W.widen (k := b9 + 4) (n := s9 + 24) (by omega) (by omega) ?_
        exact hB194 _ _ _ _ _ _ _ h _ _ _ hP (lv_sub hl [0, 1, 2, 3, 4, 5] rfl)
      · rw [if_pos c22] at h
        refine lv_bipush (v := 46) hx hb dL_build_174 (by decide) ?_
        refine lv_goto (tgt := 194) hx hb dL_build_176 (by decide) ?_
        refine W.widen (k := b9 + 4) (n := s9 + 24) (by omega) (by omega) ?_
        exact hB194 _ _ _ _ _ _ _ h _ _ _ hP (lv_sub hl [0, 1, 2, 3, 4, 5] rfl)
  unfold F_L_round at h
  refine lv_istore (lv' := [(5, .int x5), (0, .ref b), (1, .ref (P.2.1 0)), (3, .int x3), (4, .int x4)]) hx hb dL_build_72 hl (by decide) rfl (fun ls hl => ?_)
  refine lv_aload_n hx hb dL_build_74 rfl (lv_at hl 2 rfl) ?_
  refine lv_iconst (v := 2) hx hb dL_build_75 (by decide) ?_
  obtain ⟨q1, hq1, h⟩ := ob h
  cases q1 with
  | inl u => cases h
  | inr v2 =>
    rw [Sum.elim_inr] at h
    refine vu_i hP (vu_V S hF hP (h := 0) (hlt _ (by decide)) rfl (by decide) rfl (n_X5_boardOf l P hA hn w 2 hq1) ok_X5_boardOf ml_L_38 ⟨Nat.le_of_ble_eq_true rfl, Nat.le_of_ble_eq_true rfl⟩ rfl hl.1 rfl (Nat.le_of_ble_eq_true rfl) dL_build_76 ⟨(by show _ ≤ 560; omega), (by show _ ≤ 4200; omega)⟩) (fun H locs hov2 hP => ?_)
    try dsimp only at h
    refine lv_istore (lv' := [(6, .int v2.1), (5, .int x5), (0, .ref b), (1, .ref (P.2.1 0)), (3, .int x3), (4, .int x4)]) hx hb dL_build_79 hl (by decide) rfl (fun ls hl => ?_)
    refine lv_aload_n hx hb dL_build_81 rfl (lv_at hl 3 rfl) ?_
    refine lv_iconst (v := 3) hx hb dL_build_82 (by decide) ?_
    refine lv_iload hx hb dL_build_83 (lv_at hl 1 rfl) ?_
    refine lv_bipush (v := 15) hx hb dL_build_85 (by decide) ?_
    refine lv_iand hx hb dL_build_87 ?_
    refine lv_iload hx hb dL_build_88 (lv_at hl 0 rfl) ?_
    obtain ⟨c23, h⟩ := chk h
    refine lv_irem hx hb dL_build_90 c23 ?_
    refine lv_iconst (v := 0) hx hb dL_build_91 (by decide) ?_
    refine lv_bipush (v := 32) hx hb dL_build_92 (by decide) ?_
    obtain ⟨q3, hq3, h⟩ := ob h
    refine vu_SW S hF hP (c_L_act l P hA hn hst v2.2 3 (jrem (x5 &&& (15 : Int32)) v2.1) 0 32 hq3) ok_L_act ml_L_30 ⟨Nat.le_of_ble_eq_true rfl, Nat.le_of_ble_eq_true rfl⟩ rfl hl.1 rfl (Nat.le_of_ble_eq_true rfl) dL_build_94 ⟨(by show _ ≤ 560; omega), (by show _ ≤ 4200; omega)⟩ (fun H locs hP => ?_)
    refine lv_pop hx hb dL_build_97 rfl ?_
    refine lv_iload hx hb dL_build_98 (lv_at hl 1 rfl) ?_
    refine lv_iconst (v := 4) hx hb dL_build_100 (by decide) ?_
    refine lv_ishr hx hb dL_build_101 ?_
    refine lv_bipush (v := 7) hx hb dL_build_102 (by decide) ?_
    refine lv_iand hx hb dL_build_104 ?_
    refine lv_if_ne (tgt := 140) hx hb dL_build_105 (by decide) (fun c24 => ?_) (fun c24 => ?_)
    · rw [if_neg c24] at h
      refine W.widen (k := b9 + 4) (n := s9 + 24) (by omega) (by omega) ?_
      exact hB140 _ _ _ h _ _ _ hP (lv_sub hl [2, 3, 4, 5, 1, 0] rfl)
    · rw [if_pos c24] at h
      refine lv_aload_n hx hb dL_build_108 rfl (lv_at hl 3 rfl) ?_
      refine lv_iconst (v := 1) hx hb dL_build_109 (by decide) ?_
      refine lv_iload hx hb dL_build_110 (lv_at hl 1 rfl) ?_
      refine lv_bipush (v := 7) hx hb dL_build_112 (by decide) ?_
      refine lv_ishr hx hb dL_build_114 ?_
      refine lv_bipush (v := 15) hx hb dL_build_115 (by decide) ?_
      refine lv_iand hx hb dL_build_117 ?_
      refine lv_iload_n hx hb dL_build_118 rfl (lv_at hl 4 rfl) ?_
      obtain ⟨c25, h⟩ := chk h
      refine lv_irem hx hb dL_build_119 c25 ?_
      refine lv_iconst (v := 0) hx hb dL_build_120 (by decide) ?_
      refine lv_bipush (v := 97) hx hb dL_build_121 (by decide) ?_
      refine lv_iload hx hb dL_build_123 (lv_at hl 1 rfl) ?_
      refine lv_bipush (v := 11) hx hb dL_build_125 (by decide) ?_
      refine lv_ishr hx hb dL_build_127 ?_
      refine lv_bipush (v := 15) hx hb dL_build_128 (by decide) ?_
      refine lv_iand hx hb dL_build_130 ?_
      refine lv_bipush (v := 12) hx hb dL_build_131 (by decide) ?_
      refine lv_irem hx hb dL_build_133 (by decide) ?_
      refine lv_iadd hx hb dL_build_134 ?_
      refine lv_i2c hx hb dL_build_135 rfl ?_
      obtain ⟨q10, hq10, h⟩ := ob h
      refine vu_SW S hF hP (c_L_act l P hA hn hst q3.2 1 (jrem ((jshr x5 (7 : Int32)) &&& (15 : Int32)) x3) 0 (ji2c ((97 : Int32) + (jrem ((jshr x5 (11 : Int32)) &&& (15 : Int32)) (12 : Int32)))) hq10) ok_L_act ml_L_30 ⟨Nat.le_of_ble_eq_true rfl, Nat.le_of_ble_eq_true rfl⟩ rfl hl.1 rfl (Nat.le_of_ble_eq_true rfl) dL_build_136 ⟨(by show _ ≤ 560; omega), (by show _ ≤ 4200; omega)⟩ (fun H locs hP => ?_)
      refine lv_pop hx hb dL_build_139 rfl ?_
      refine W.widen (k := b9 + 4) (n := s9 + 24) (by omega) (by omega) ?_
      exact hB140 _ _ _ h _ _ _ hP (lv_sub hl [2, 3, 4, 5, 1, 0] rfl)
def B_L_build_43 (w : Wo) (t0 : Int32) (t1 : Int32) (t2 : Int32) (t3 : Int32) : Option ((Int32 × Wo)) := (F_L_act w t3 t2 (t1 + t0) 32).bind fun q1 => ((F_X5_account q1.2 0).bind fun q2 => (Sum.elim (fun _ => none) (fun v3 => (some (v3.1, v3.2))) q2))
def B_L_build_28 (w : Wo) (x2 : Int32) (t0 : Int32) (t1 : Int32) (t2 : Int32) : Option ((Int32 × Wo)) := if ((jshr x2 (2 : Int32)) &&& (3 : Int32)) = 0 then (B_L_build_43 w 0 2 (t1 + t0) t2) else (B_L_build_43 w 1 2 (t1 + t0) t2)
def F_L_first (w : Wo) (x2 : Int32) : Option (Int32 × Wo) := if (x2 &&& (3 : Int32)) = 0 then (B_L_build_28 w x2 0 2 0) else (B_L_build_28 w x2 1 2 0)
set_option maxRecDepth 100000 in
set_option maxHeartbeats 4000000 in
theorem f_build {c0 : Cond} {p : Program} {l : Launch} {e : Env} {s : State} {m : MethodId} {args : Array Value} {below : List Frame} {meth : Method} {c : Code} {Q : State → Prop} {b : Nat} (P : Pl) (hA : Adr P) (hn : 26 ≤ P.2.2.2.1) (hst : l.stackTraces = false) (S : CallFix p m c cL_build 8 s args (c0 :: ALLW) RL) (hF : Fx P s) {b9 s9 : Nat} (hb9 : b9 + 2 ≤ 560) (hs9 : s9 + 12 ≤ 4200) {r : Int32 × Wo} (K : ∀ (H : Heap) (locs : List Loc) (ls : Array Slot), St P s r.2 H locs → lv_has ls 8 [(0, .ref b), (1, .ref (P.2.1 0)), (3, .int r.1), (4, .int 1)] → W p l e (rmU 10 560 4200) s m args below meth c H locs (b9 + 2) (s9 + 12) Q (F0 m 59 ls [])) (w : Wo) (x2 : Int32) (h : F_L_first w x2 = some r) (H : Heap) (locs : List Loc) (ls : Array Slot) (hP : St P s w H locs) (hl : lv_has ls 8 [(0, .ref b), (1, .ref (P.2.1 0))]) : W p l e (rmU 10 560 4200) s m args below meth c H locs b9 s9 Q (F0 m 13 ls [.int x2]) := by
  have hlt : ∀ h, h < 26 → h < P.2.2.2.1 := fun h q => Nat.lt_of_lt_of_le q hn
  have hx := S.1
  have hb := S.2.1
  have hB43 : ∀ (w : Wo) (t0 : Int32) (t1 : Int32) (t2 : Int32) (t3 : Int32), B_L_build_43 w t0 t1 t2 t3 = some r → ∀ (H : Heap) (locs : List Loc) (ls : Array Slot), St P s w H locs → lv_has ls 8 [(0, .ref b), (1, .ref (P.2.1 0))] → W p l e (rmU 10 560 4200) s m args below meth c H locs (b9 + 0) (s9 + 0) Q (F0 m 43 ls [.int t0, .int t1, .int t2, .int t3, .ref (P.2.1 0)]) := by
    intro w t0 t1 t2 t3 h H locs ls hP hl
    unfold B_L_build_43 at h
    refine lv_iadd hx hb dL_build_43 ?_
    refine lv_bipush (v := 32) hx hb dL_build_44 (by decide) ?_
    obtain ⟨q1, hq1, h⟩ := ob h
    refine vu_SW S hF hP (c_L_act l P hA hn hst w t3 t2 (t1 + t0) 32 hq1) ok_L_act ml_L_30 ⟨Nat.le_of_ble_eq_true rfl, Nat.le_of_ble_eq_true rfl⟩ rfl hl.1 rfl (Nat.le_of_ble_eq_true rfl) dL_build_46 ⟨(by show _ ≤ 560; omega), (by show _ ≤ 4200; omega)⟩ (fun H locs hP => ?_)
    refine lv_pop hx hb dL_build_49 rfl ?_
    refine lv_aload_n hx hb dL_build_50 rfl (lv_at hl 1 rfl) ?_
    refine lv_iconst (v := 0) hx hb dL_build_51 (by decide) ?_
    obtain ⟨q2, hq2, h⟩ := ob h
    cases q2 with
    | inl u => cases h
    | inr v3 =>
      rw [Sum.elim_inr] at h
      refine vu_i hP (vu_V S hF hP (h := 0) (hlt _ (by decide)) rfl (by decide) rfl (n_X5_account l P hA hn q1.2 0 hq2) ok_X5_account ml_L_34 ⟨Nat.le_of_ble_eq_true rfl, Nat.le_of_ble_eq_true rfl⟩ rfl hl.1 rfl (Nat.le_of_ble_eq_true rfl) dL_build_52 ⟨(by show _ ≤ 560; omega), (by show _ ≤ 4200; omega)⟩) (fun H locs hov3 hP => ?_)
      try dsimp only at h
      refine lv_istore_n (lv' := [(3, .int v3.1), (0, .ref b), (1, .ref (P.2.1 0))]) hx hb dL_build_55 rfl hl (by decide) rfl (fun ls hl => ?_)
      refine lv_iconst (v := 1) hx hb dL_build_56 (by decide) ?_
      refine lv_istore (lv' := [(4, .int 1), (3, .int v3.1), (0, .ref b), (1, .ref (P.2.1 0))]) hx hb dL_build_57 hl (by decide) rfl (fun ls hl => ?_)
      obtain rfl := Option.some.inj h
      refine W.widen (k := b9 + 2) (n := s9 + 12) (by omega) (by omega) ?_
      exact K _ _ _ hP (lv_sub hl [2, 3, 1, 0] rfl)
  have hB28 : ∀ (w : Wo) (x2 : Int32) (t0 : Int32) (t1 : Int32) (t2 : Int32), B_L_build_28 w x2 t0 t1 t2 = some r → ∀ (H : Heap) (locs : List Loc) (ls : Array Slot), St P s w H locs → lv_has ls 8 [(0, .ref b), (1, .ref (P.2.1 0)), (2, .int x2)] → W p l e (rmU 10 560 4200) s m args below meth c H locs (b9 + 0) (s9 + 0) Q (F0 m 28 ls [.int t0, .int t1, .int t2, .ref (P.2.1 0)]) := by
    intro w x2 t0 t1 t2 h H locs ls hP hl
    unfold B_L_build_28 at h
    refine lv_iadd hx hb dL_build_28 ?_
    refine lv_iconst (v := 2) hx hb dL_build_29 (by decide) ?_
    refine lv_iload_n hx hb dL_build_30 rfl (lv_at hl 2 rfl) ?_
    refine lv_iconst (v := 2) hx hb dL_build_31 (by decide) ?_
    refine lv_ishr hx hb dL_build_32 ?_
    refine lv_iconst (v := 3) hx hb dL_build_33 (by decide) ?_
    refine lv_iand hx hb dL_build_34 ?_
    refine lv_if_ne (tgt := 42) hx hb dL_build_35 (by decide) (fun c4 => ?_) (fun c4 => ?_)
    · rw [if_neg c4] at h
      refine lv_iconst (v := 1) hx hb dL_build_42 (by decide) ?_
      refine W.widen (k := b9 + 0) (n := s9 + 0) (by omega) (by omega) ?_
      exact hB43 _ _ _ _ _ h _ _ _ hP (lv_sub hl [0, 1] rfl)
    · rw [if_pos c4] at h
      refine lv_iconst (v := 0) hx hb dL_build_38 (by decide) ?_
      refine lv_goto (tgt := 43) hx hb dL_build_39 (by decide) ?_
      refine W.widen (k := b9 + 0) (n := s9 + 0) (by omega) (by omega) ?_
      exact hB43 _ _ _ _ _ h _ _ _ hP (lv_sub hl [0, 1] rfl)
  unfold F_L_first at h
  refine lv_istore_n (lv' := [(2, .int x2), (0, .ref b), (1, .ref (P.2.1 0))]) hx hb dL_build_13 rfl hl (by decide) rfl (fun ls hl => ?_)
  refine lv_aload_n hx hb dL_build_14 rfl (lv_at hl 2 rfl) ?_
  refine lv_iconst (v := 0) hx hb dL_build_15 (by decide) ?_
  refine lv_iconst (v := 2) hx hb dL_build_16 (by decide) ?_
  refine lv_iload_n hx hb dL_build_17 rfl (lv_at hl 0 rfl) ?_
  refine lv_iconst (v := 3) hx hb dL_build_18 (by decide) ?_
  refine lv_iand hx hb dL_build_19 ?_
  refine lv_if_ne (tgt := 27) hx hb dL_build_20 (by decide) (fun c5 => ?_) (fun c5 => ?_)
  · rw [if_neg c5] at h
    refine lv_iconst (v := 1) hx hb dL_build_27 (by decide) ?_
    refine W.widen (k := b9 + 0) (n := s9 + 0) (by omega) (by omega) ?_
    exact hB28 _ _ _ _ _ h _ _ _ hP (lv_sub hl [1, 2, 0] rfl)
  · rw [if_pos c5] at h
    refine lv_iconst (v := 0) hx hb dL_build_23 (by decide) ?_
    refine lv_goto (tgt := 28) hx hb dL_build_24 (by decide) ?_
    refine W.widen (k := b9 + 0) (n := s9 + 0) (by omega) (by omega) ?_
    exact hB28 _ _ _ _ _ h _ _ _ hP (lv_sub hl [1, 2, 0] rfl)
section VKR
variable {p : Program} {l : Launch} {e : Env} {R : Room} {s : State} {m : MethodId} {args : Array Value} {below : List Frame} {meth : Method} {c : Code} {H : Heap} {locs : List Loc} {cells slots : Nat} {Q : State → Prop}
variable {cc b : ByteArray} {pc nL mL : Nat} {ls : Array Slot} {rest As st0 : List Value} {own C host : String} {Ts : List Cond} {P P' : Pl} {w w' : Wo} {fl fl' : Nat → Nat → Bool} {T : u_T} {N ci k index n d mc ms : Nat} {c0 : Cond} {y : MethodName}
/-- a new thing; what was there stays -/
theorem vk_newk (S : CallFix p m c cc nL s args (c0 :: Ts) own) (hF : Fc P s) (hP : SC P s fl w H locs) (hn : P.2.2.2.1 = n) (hs : shp n = (ci, 0)) (hc7 : ci < 7) (hc : vc[ci]? = some (C, T, N)) (hin : ∀ w ∈ u_ws C T N, w ∈ c0 :: Ts) (ty : Nat → FieldType) (hty : ∀ k, k < N → parseFieldDescriptor (T k).2.2.1 = some (ty k)) (hdf : ∀ j, j < N → defaultValue (ty j) = vp_V ((kds ci).map dv) j)
    (hz : ∀ k, gI w n k = 0 ∧ gL w n k = 0) (hz3 : (List.range (kds ci).length).all (fun k => (kds ci)[k]? != some 2 || !fl n k) = true) (hcl : Cond.classLink own index C ∈ Ts) (hinst : Cond.instantiable C N ∈ Ts) (hini : Cond.initialized C ∈ Ts) (hup : P.2.1 (n + 1) = P.2.1 n + 1) (hcells : cells + 1 ≤ R.cells) (hslots : slots + N ≤ R.slots) (hdg : decode cc pc = .ok (.new index, 3))
    (kk : ∀ (H1 : Heap), H1.size = H.size + 1 → (∀ q : Nat, q < H.size → H1[q]? = H[q]?) → SC (Pn P (n + 1)) s fl w H1 locs → W p l e R s m args below meth c H1 locs (cells + 1) (slots + N) Q (F0 m (pc + 3) ls (.ref (P.2.1 n) :: rest))) : W p l e R s m args below meth c H locs cells slots Q (F0 m pc ls rest) := by
  subst hn
  have hKn := hF.2.1.1 ci _ hc
  have hts : ∀ w ∈ c0 :: Ts, w.before args s = true := S.2.2.2.2
  refine W.newcK S.1 S.2.1 S.2.2.2.1 (hts _ (List.mem_cons_of_mem _ hcl)) (hts _ (List.mem_cons_of_mem _ hinst)) (hts _ (List.mem_cons_of_mem _ hini)) rfl hdg hcells hslots hKn.2.1 rfl fun H1 kC hkC e1 z1 o1 => ?_
  have hsz : H.size = P.2.1 P.2.2.2.1 := hP.1.2
  have hk : ∀ (k : Nat) (x : Nat × va_E), (wc fl P.2.1 P.2.2.1 P.2.2.2.1 w)[k]? = some x → H1[x.1]? = H[x.1]? := fun k x hx => o1 x.1 ((hP.1.1 k x hx).lt)
  have ef : (kds ci).mapIdx (fun k q => vqc fl P.2.1 w P.2.2.2.1 k q) = (kds ci).map dv := by
    apply List.ext_getElem?
    intro j
    rw [List.getElem?_mapIdx, List.getElem?_map]
    cases hq : (kds ci)[j]? with
    | none => rfl
    | some x =>
      obtain ⟨z1, z2⟩ := hz j
      show some (vqc fl P.2.1 w P.2.2.2.1 j x) = some (dv x)
      congr 1
      unfold vqc
      by_cases h2 : x = 2
      · subst h2
        have z4 := List.all_eq_true.mp hz3 j (List.mem_range.mpr (List.getElem?_eq_some_iff.mp hq).1)
        have z3 : fl P.2.2.2.1 j = false := by simpa [hq] using z4
        simp [z3, dv]
      · rw [if_neg h2]
        match x, h2 with
        | 0, _ => simp [vq, dv, z1]
        | 1, _ => simp [vq, dv, z2]
        | 2, h2 => exact absurd rfl h2
        | x + 3, _ => simp [vq, dv, z1]
  rw [hsz]
  refine kk H1 z1 o1 ⟨⟨?_, ?_⟩, ⟨Nat.le_trans hP.2.1 (by omega), fun x h1 h2 => (o1 x (by have := hP.2.1; omega)).trans (hP.2.2.1 x h1 h2), hP.2.2.2⟩⟩
  · show va_P P.1 vc (wc fl P.2.1 P.2.2.1 (P.2.2.2.1 + 1) w) H1
    rw [wc_succ]
    refine (hP.1.1.kept hk).app (fun k x hx => ?_)
    have hz : k < 1 := (List.getElem?_eq_some_iff.mp hx).1
    rw [show k = 0 by omega] at hx
    cases hx
    rw [cec_obj (by rw [hs]) hc7, ef]
    have hb := (u_born ty hts hin hKn hkC e1 hty).to hdf
    rw [hsz] at hb
    exact ⟨_, hc, hb⟩
  · show H1.size = P.2.1 (P.2.2.2.1 + 1)
    rw [z1, hsz, hup]
end VKR
def xat (L : Nat) (xs : Nat → Int32) (k : Nat) : Int32 := if k < L then xs k else 0
def bRounds (L : Nat) (xs : Nat → Int32) (x3 : Int32) : Nat → Nat → Wo → Option Wo
  | 0, _, w => some w
  | n + 1, k, w => (F_L_round w x3 (nI k) (xat L xs k)).bind fun w1 => bRounds L xs x3 n (k + 1) w1
/-- what build makes -/
def F_L_build (L : Nat) (xs : Nat → Int32) : Option Wo := (F_X0_lay N_X5 3 3).bind fun w => (F_L_first w (xat L xs 0)).bind fun q => bRounds L xs q.1 12 1 q.2
theorem nlt13 : ∀ k, k < 13 → ¬ (13 : Int32) ≤ nI k := by decide +kernel
theorem n13s : ∀ k, k < 13 → nI k + 1 = nI (k + 1) := by decide +kernel
set_option maxRecDepth 100000 in
set_option maxHeartbeats 4000000 in
theorem l_build {c0 : Cond} {p : Program} {l : Launch} {e : Env} {s : State} {m : MethodId} {args : Array Value} {below : List Frame} {meth : Method} {c : Code} {Q : State → Prop} {b : Nat} (P : Pl) (hA : Adr P) (hn : 26 ≤ P.2.2.2.1) (hst : l.stackTraces = false) (S : CallFix p m c cL_build 8 s args (c0 :: ALLW) RL) (hF : Fx P s) {L : Nat} {xs : Nat → Int32} (hL : L < 2 ^ 31) (hX : ∀ (H : Heap) (locs : List Loc), va_S (Ab P.2.2.2.2.1) s.heap H locs → ∀ U : State, U.heap = H → s.WarmedH U.vm → va_X b L xs U U.heap ∧ b < U.heap.size) {x3 : Int32} {r : Wo} (K : ∀ (H : Heap) (locs : List Loc) (ls : Array Slot), St P s r H locs → lv_has ls 8 [(0, .ref b), (1, .ref (P.2.1 0))] → W p l e (rmU 10 560 4200) s m args below meth c H locs 560 4200 Q (F0 m 385 ls [])) : ∀ (n k b9 s9 : Nat), k + n = 13 → b9 + 40 * n ≤ 560 → s9 + 240 * n ≤ 4200 → ∀ (w : Wo), bRounds L xs x3 n k w = some r → ∀ (H : Heap) (locs : List Loc) (ls : Array Slot), St P s w H locs → lv_has ls 8 [(0, .ref b), (1, .ref (P.2.1 0)), (3, .int x3), (4, .int (nI k))] → W p l e (rmU 10 560 4200) s m args below meth c H locs b9 s9 Q (F0 m 59 ls []) := by
  have hx := S.1
  have hb := S.2.1
  intro n
  induction n with
  | zero =>
    intro k b9 s9 hk hb9 hs9 w h H locs ls hP hl
    obtain rfl : k = 13 := by omega
    obtain rfl := Option.some.inj h
    refine lv_iload hx hb dL_build_59 (lv_at hl 3 rfl) ?_
    refine lv_bipush (v := 13) hx hb dL_build_61 (by decide) ?_
    refine lv_icmp_ge (tgt := 385) hx hb dL_build_63 (by decide) (fun _ => ?_) (fun c9 => absurd (by decide) c9)
    refine W.widen (k := 560) (n := 4200) (by omega) (by omega) ?_
    exact K _ _ _ hP (lv_sub hl [0, 1] rfl)
  | succ n ih =>
    intro k b9 s9 hk hb9 hs9 w h H locs ls hP hl
    unfold bRounds at h
    obtain ⟨w1, hw1, h⟩ := ob h
    refine lv_iload hx hb dL_build_59 (lv_at hl 3 rfl) ?_
    refine lv_bipush (v := 13) hx hb dL_build_61 (by decide) ?_
    refine lv_icmp_ge (tgt := 385) hx hb dL_build_63 (by decide) (fun c9 => absurd c9 (nlt13 k (by omega))) (fun _ => ?_)
    refine lv_aload_n hx hb dL_build_66 rfl (lv_at hl 0 rfl) ?_
    refine lv_iload hx hb dL_build_67 (lv_at hl 3 rfl) ?_
    refine tt_i hP.2 (tt_S S (hX H locs hP.2) (fun U g mk a' h => ⟨va_X.moved (Vm.Alike.refl U.vm) h.1, h.2⟩) (c_L_at l hL (show k < 2 ^ 31 by omega)) ok_L_at ml_L_24 ⟨(Nat.le_of_ble_eq_true rfl), (Nat.le_of_ble_eq_true rfl)⟩ rfl hl.1 rfl (Nat.le_of_ble_eq_true rfl) dL_build_69 ⟨(by show _ ≤ 560; omega), (by show _ ≤ 4200; omega)⟩) (fun H1 locs1 _ hz hk9 hS => ?_)
    replace hP : St P s w H1 locs1 := ⟨hP.1.kept (fun i q hq => hk9 _ (hP.1 i q hq).lt), hS⟩
    refine r_build P hA hn hst S hF (x4 := nI k) (by omega) (by omega) (fun H locs ls hP hl => ?_) w _ hw1 _ _ _ hP hl
    refine lv_iinc (v := (nI k + 1)) (lv' := [(4, .int (nI k + 1)), (0, .ref b), (1, .ref (P.2.1 0)), (3, .int x3)]) hx hb dL_build_379 hl (k := 3) rfl rfl (by decide) rfl (fun ls hl => ?_)
    refine lv_goto (tgt := 59) hx hb dL_build_382 (by decide) ?_
    rw [n13s k (by omega)] at hl
    exact ih (k + 1) _ _ (by omega) (by omega) (by omega) _ h _ _ _ hP (lv_sub hl [1, 2, 3, 0] rfl)
def BuB (D : va_G) (cA : Nat → ClassId) (sa : Nat → Nat) (b L : Nat) (xs : Nat → Int32) (n0 : Nat) (U : State) : Prop := U.heap.size = n0 ∧ va_K D vc (tyl cA) U ∧ Ex (0, 0, n0) sa U ∧ va_AO "VowelTorus$Board" U ∧ va_X b L xs U U.heap ∧ b < n0
set_option maxRecDepth 100000 in
set_option maxHeartbeats 4000000 in
theorem c_L_build (l : Launch) (hst : l.stackTraces = false) {D : va_G} {cA : Nat → ClassId} {sa : Nat → Nat} {b L : Nat} {xs : Nat → Int32} {n0 : Nat} (hL : L < 2 ^ 31) {w' : Wo} (h : F_L_build L xs = some w') : Met l yL_build (wsU yL_build cL_build 8 (some (.object "VowelTorus"))) (rmU 10 560 4200) (va_Pc [.ref b] (BuB D cA sa b L xs n0)) (va_Qr (fun (u : Wo) => u = w') (fun u a t => a = (Pb D cA sa 26 n0).2.1 0 ∧ Wq (Pb D cA sa 26 n0) u t) (Ab (0, 0, n0))) 560 4200 (Ab (0, 0, n0)) := by
  refine tm_met (by decide +kernel) (Nat.le_of_ble_eq_true rfl) (fun p e s m args below meth c ls S hB hl hr hlk hnm => ?_)
  have hx := S.1
  have hb := S.2.1
  replace hl : lv_has ls 8 [(0, .ref b)] := hl
  obtain ⟨rfl, hK, hEx, hAO, hX, hbl⟩ := hB
  unfold F_L_build at h
  obtain ⟨w, hw, h1⟩ := ob h
  obtain ⟨q, hq, h2⟩ := ob h1
  have hF0 : Fc (Pb D cA sa 0 s.heap.size) s := ⟨Nat.le_refl _, hK, hEx, Pb_up, hAO⟩
  have hP0 : SC (Pb D cA sa 0 s.heap.size) s fl0 w0 s.heap [] := ⟨⟨fun k q h => by simp [wc] at h, rfl⟩, va_S.rf⟩
  refine vk_new (n := 0) S hF0 hP0 rfl rfl (by decide) rfl (inC_X5 _) tyX5 tyX5_ok df_X5 (fun k => ⟨rfl, rfl⟩) rfl kl_L_18 in_X5 ii_X5 rfl (Nat.le_of_ble_eq_true rfl) (Nat.le_of_ble_eq_true rfl) dL_build_0 (fun H hP => ?_)
  refine lv_dup hx hb dL_build_3 rfl ?_
  refine va_callv (va_runI (As := []) S (c_X5_init l (Pb D cA sa 0 s.heap.size) Pb_up (fun _ _ => rfl) hw) (cwI 0 S.2.2.2.2 (consG ok_X5_init.2.2.1 allG) rfl rfl rfl (S.2.2.2.2 _ (List.mem_cons_of_mem _ ok_X5_init.2.1)) (S.2.2.2.2 _ (List.mem_cons_of_mem _ ml_L_23)) (S.2.2.2.2 _ (List.mem_cons_of_mem _ ok_X5_init.1)) rfl ⟨ok_X5_init.2.2.2.1, ok_X5_init.2.2.2.2.1, ok_X5_init.2.2.2.2.2.1⟩ ⟨(Nat.le_of_ble_eq_true rfl), (Nat.le_of_ble_eq_true rfl)⟩) (vk_pre (P := Pb D cA sa 1 s.heap.size) (hF0.n 1) hP) rfl rfl hl.1 rfl (lv_room (Nat.le_of_ble_eq_true rfl)) dL_build_4 ⟨(Nat.le_of_ble_eq_true rfl), (Nat.le_of_ble_eq_true rfl)⟩) hP.2 (fun _ _ h => h) (fun _ h => h) (fun u t H locs ht _ hw hB _ _ hS => ?_)
  subst hw
  subst ht
  have hF : Fx (Pb D cA sa 26 s.heap.size) s := ⟨Nat.le_refl _, hK, hEx, Pb_adr⟩
  have hP : St (Pb D cA sa 26 s.heap.size) s u t.heap locs := ⟨hB, hS⟩
  have hX9 : ∀ (H : Heap) (locs : List Loc), va_S (Ab (0, 0, s.heap.size)) s.heap H locs → ∀ U : State, U.heap = H → s.WarmedH U.vm → va_X b L xs U U.heap ∧ b < U.heap.size := fun H locs hS U hU hW => by
    subst hU
    exact ⟨va_X.moved hW.alike (hX.kept (hS.2.1 b hbl (fun h => absurd (A0_iff.mp h) (Nat.not_le.mpr hbl)))), Nat.lt_of_lt_of_le hbl hS.1⟩
  generalize t.heap = H at hP ⊢
  refine lv_astore_n (lv' := [(1, .ref ((Pb D cA sa 26 s.heap.size).2.1 0)), (0, .ref b)]) hx hb dL_build_7 rfl hl (by decide) rfl (fun ls hl => ?_)
  refine lv_aload_n hx hb dL_build_8 rfl (lv_at hl 1 rfl) ?_
  refine lv_iconst (v := nI 0) hx hb dL_build_9 (by decide) ?_
  refine tt_i hP.2 (tt_S S (hX9 H locs hP.2) (fun U g mk a' h => ⟨va_X.moved (Vm.Alike.refl U.vm) h.1, h.2⟩) (c_L_at l hL (show 0 < 2 ^ 31 by omega)) ok_L_at ml_L_24 ⟨(Nat.le_of_ble_eq_true rfl), (Nat.le_of_ble_eq_true rfl)⟩ rfl hl.1 rfl (Nat.le_of_ble_eq_true rfl) dL_build_10 ⟨(Nat.le_of_ble_eq_true rfl), (Nat.le_of_ble_eq_true rfl)⟩) (fun H1 locs1 _ hz hk9 hS => ?_)
  replace hP : St (Pb D cA sa 26 s.heap.size) s u H1 locs1 := ⟨hP.1.kept (fun i q hq => hk9 _ (hP.1 i q hq).lt), hS⟩
  refine f_build (Pb D cA sa 26 s.heap.size) Pb_adr (Nat.le_refl _) hst S hF (by omega) (by omega) (fun H locs ls hP hl => ?_) u _ hq _ _ _ hP (lv_sub hl [1, 0] rfl)
  refine l_build (Pb D cA sa 26 s.heap.size) Pb_adr (Nat.le_refl _) hst S hF hL hX9 (fun H locs ls hP hl => ?_) 12 1 _ _ rfl (by omega) (by omega) _ h2 _ _ _ hP hl
  refine lv_aload_n hx hb dL_build_385 rfl (lv_at hl 1 rfl) ?_
  exact ve_r (v := 0) S hF hP hr hlk dL_build_386
