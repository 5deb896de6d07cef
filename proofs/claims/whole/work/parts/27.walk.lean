set_option maxRecDepth 100000 in
set_option maxHeartbeats 4000000 in
theorem c_X6_turnsOne (l : Launch) (P : Pl) (hA : Adr P) (hn : 36 ≤ P.2.2.2.1) (w : Wo) (x1 : Int32) {r : Int32 × Wo} (h : F_X6_turnsOne w x1 = some r) : CtI l P yX6_turnsOne cX6_turnsOne 2 (some .int) 4 [.ref (P.2.1 26), .int x1] w r.1 r.2 := by
  have hlt : ∀ h, h < 36 → h < P.2.2.2.1 := fun h q => Nat.lt_of_lt_of_le q hn
  refine vs_met hA (by decide +kernel) (Nat.le_of_ble_eq_true rfl) (fun p e s m args below meth c ls S hF hP hl hr hk => ?_)
  have hx := S.1
  have hb := S.2.1
  replace hl : lv_has ls 2 [(0, .ref (P.2.1 26)), (1, .int x1)] := hl
  unfold F_X6_turnsOne at h
  refine lv_aload_n hx hb dX6_turnsOne_0 rfl (lv_at hl 0 rfl) ?_
  refine lv_iload_n hx hb dX6_turnsOne_1 rfl (lv_at hl 1 rfl) ?_
  obtain ⟨q1, hq1, h⟩ := ob h
  refine vu_i hP (vu_V S hF hP (h := 26) (hlt _ (by decide)) rfl (by decide) rfl (c_X6_isTurn l P hA hn w x1 hq1) ok_X6_isTurn ml_X6_140 ⟨Nat.le_of_ble_eq_true rfl, Nat.le_of_ble_eq_true rfl⟩ rfl hl.1 rfl (Nat.le_of_ble_eq_true rfl) dX6_turnsOne_2 ⟨Nat.le_of_ble_eq_true rfl, Nat.le_of_ble_eq_true rfl⟩) (fun H locs ho2 hP => ?_)
  refine lv_if_ne (tgt := 14) hx hb dX6_turnsOne_5 (by decide) (fun c13 => ?_) (fun c13 => ?_)
  · rw [if_neg c13] at h
    refine lv_aload_n hx hb dX6_turnsOne_14 rfl (lv_at hl 0 rfl) ?_
    refine lv_iload_n hx hb dX6_turnsOne_15 rfl (lv_at hl 1 rfl) ?_
    obtain ⟨q3, hq3, h⟩ := ob h
    refine vu_i hP (vu_V S hF hP (h := 26) (hlt _ (by decide)) rfl (by decide) rfl (c_X6_isOpen l P hA hn w x1 hq3) ok_X6_isOpen ml_X6_143 ⟨Nat.le_of_ble_eq_true rfl, Nat.le_of_ble_eq_true rfl⟩ rfl hl.1 rfl (Nat.le_of_ble_eq_true rfl) dX6_turnsOne_16 ⟨Nat.le_of_ble_eq_true rfl, Nat.le_of_ble_eq_true rfl⟩) (fun H locs ho4 hP => ?_)
    refine lv_if_eq (tgt := 34) hx hb dX6_turnsOne_19 (by decide) (fun c14 => ?_) (fun c14 => ?_)
    · rw [if_pos c14] at h
      refine lv_aload_n hx hb dX6_turnsOne_34 rfl (lv_at hl 0 rfl) ?_
      refine lv_iconst (v := 1) hx hb dX6_turnsOne_35 (by decide) ?_
      refine lv_iload_n hx hb dX6_turnsOne_36 rfl (lv_at hl 1 rfl) ?_
      refine lv_iconst (v := 2) hx hb dX6_turnsOne_37 (by decide) ?_
      refine lv_idiv hx hb dX6_turnsOne_38 (by decide) ?_
      refine lv_iconst (v := 2) hx hb dX6_turnsOne_39 (by decide) ?_
      obtain ⟨q5, hq5, h⟩ := ob h
      refine vu_i hP (vu_V S hF hP (h := 26) (hlt _ (by decide)) rfl (by decide) rfl (c_X6_refused l P hA hn w 1 (x1 / 2) 2 hq5) ok_X6_refused ml_X6_94 ⟨Nat.le_of_ble_eq_true rfl, Nat.le_of_ble_eq_true rfl⟩ rfl hl.1 rfl (Nat.le_of_ble_eq_true rfl) dX6_turnsOne_40 ⟨Nat.le_of_ble_eq_true rfl, Nat.le_of_ble_eq_true rfl⟩) (fun H locs ho6 hP => ?_)
      obtain rfl := Option.some.inj h
      exact ve_i (v := q5.1) S hF hP hr hk rfl dX6_turnsOne_43
    · rw [if_neg c14] at h
      refine lv_aload_n hx hb dX6_turnsOne_22 rfl (lv_at hl 0 rfl) ?_
      refine lv_aload_n hx hb dX6_turnsOne_23 rfl (lv_at hl 0 rfl) ?_
      refine lv_iload_n hx hb dX6_turnsOne_24 rfl (lv_at hl 1 rfl) ?_
      obtain ⟨q7, hq7, h⟩ := ob h
      refine vu_i hP (vu_V S hF hP (h := 26) (hlt _ (by decide)) rfl (by decide) rfl (c_X6_makesByHand l P hA hn w x1 hq7) ok_X6_makesByHand ml_X6_146 ⟨Nat.le_of_ble_eq_true rfl, Nat.le_of_ble_eq_true rfl⟩ rfl hl.1 rfl (Nat.le_of_ble_eq_true rfl) dX6_turnsOne_25 ⟨Nat.le_of_ble_eq_true rfl, Nat.le_of_ble_eq_true rfl⟩) (fun H locs ho8 hP => ?_)
      obtain ⟨q9, hq9, h⟩ := ob h
      refine vu_i hP (vu_V S hF hP (h := 26) (hlt _ (by decide)) rfl (by decide) rfl (c_X6_done l P hA hn q7.2 q7.1 hq9) ok_X6_done ml_X6_81 ⟨Nat.le_of_ble_eq_true rfl, Nat.le_of_ble_eq_true rfl⟩ rfl hl.1 rfl (Nat.le_of_ble_eq_true rfl) dX6_turnsOne_28 ⟨Nat.le_of_ble_eq_true rfl, Nat.le_of_ble_eq_true rfl⟩) (fun H locs ho10 hP => ?_)
      refine lv_goto (tgt := 43) hx hb dX6_turnsOne_31 (by decide) ?_
      obtain rfl := Option.some.inj h
      exact ve_i (v := q9.1) S hF hP hr hk rfl dX6_turnsOne_43
  · rw [if_pos c13] at h
    refine lv_aload_n hx hb dX6_turnsOne_8 rfl (lv_at hl 0 rfl) ?_
    refine lv_iconst (v := 1) hx hb dX6_turnsOne_9 (by decide) ?_
    obtain ⟨q11, hq11, h⟩ := ob h
    refine vu_i hP (vu_V S hF hP (h := 26) (hlt _ (by decide)) rfl (by decide) rfl (c_X6_fails l P hA hn w 1 hq11) ok_X6_fails ml_X6_77 ⟨Nat.le_of_ble_eq_true rfl, Nat.le_of_ble_eq_true rfl⟩ rfl hl.1 rfl (Nat.le_of_ble_eq_true rfl) dX6_turnsOne_10 ⟨Nat.le_of_ble_eq_true rfl, Nat.le_of_ble_eq_true rfl⟩) (fun H locs ho12 hP => ?_)
    obtain rfl := Option.some.inj h
    exact ve_i (v := q11.1) S hF hP hr hk rfl dX6_turnsOne_13
set_option maxRecDepth 100000 in
set_option maxHeartbeats 4000000 in
theorem c_X6_turn (l : Launch) (P : Pl) (hA : Adr P) (hn : 36 ≤ P.2.2.2.1) (w : Wo) (x1 : Int32) {r : Int32 × Wo} (h : F_X6_turn w x1 = some r) : CtI l P yX6_turn cX6_turn 2 (some .int) 5 [.ref (P.2.1 26), .int x1] w r.1 r.2 := by
  have hlt : ∀ h, h < 36 → h < P.2.2.2.1 := fun h q => Nat.lt_of_lt_of_le q hn
  refine vs_met hA (by decide +kernel) (Nat.le_of_ble_eq_true rfl) (fun p e s m args below meth c ls S hF hP hl hr hk => ?_)
  have hx := S.1
  have hb := S.2.1
  replace hl : lv_has ls 2 [(0, .ref (P.2.1 26)), (1, .int x1)] := hl
  unfold F_X6_turn at h
  refine lv_aload_n hx hb dX6_turn_0 rfl (lv_at hl 0 rfl) ?_
  obtain ⟨q1, hq1, h⟩ := ob h
  refine vu_v hP (vu_V S hF hP (h := 26) (hlt _ (by decide)) rfl (by decide) rfl (c_X6_looksBack l P hA hn w hq1) ok_X6_looksBack ml_X6_84 ⟨Nat.le_of_ble_eq_true rfl, Nat.le_of_ble_eq_true rfl⟩ rfl hl.1 rfl (Nat.le_of_ble_eq_true rfl) dX6_turn_1 ⟨Nat.le_of_ble_eq_true rfl, Nat.le_of_ble_eq_true rfl⟩) (fun H locs hP => ?_)
  refine lv_aload_n hx hb dX6_turn_4 rfl (lv_at hl 0 rfl) ?_
  refine lv_aload_n hx hb dX6_turn_5 rfl (lv_at hl 0 rfl) ?_
  refine lv_iload_n hx hb dX6_turn_6 rfl (lv_at hl 1 rfl) ?_
  obtain ⟨q2, hq2, h⟩ := ob h
  refine vu_i hP (vu_V S hF hP (h := 26) (hlt _ (by decide)) rfl (by decide) rfl (c_X6_turnsOne l P hA hn q1 x1 hq2) ok_X6_turnsOne ml_X6_149 ⟨Nat.le_of_ble_eq_true rfl, Nat.le_of_ble_eq_true rfl⟩ rfl hl.1 rfl (Nat.le_of_ble_eq_true rfl) dX6_turn_7 ⟨Nat.le_of_ble_eq_true rfl, Nat.le_of_ble_eq_true rfl⟩) (fun H locs ho3 hP => ?_)
  obtain ⟨q4, hq4, h⟩ := ob h
  refine vu_i hP (vu_V S hF hP (h := 26) (hlt _ (by decide)) rfl (by decide) rfl (c_X6_kept l P hA hn q2.2 q2.1 hq4) ok_X6_kept ml_X6_91 ⟨Nat.le_of_ble_eq_true rfl, Nat.le_of_ble_eq_true rfl⟩ rfl hl.1 rfl (Nat.le_of_ble_eq_true rfl) dX6_turn_10 ⟨Nat.le_of_ble_eq_true rfl, Nat.le_of_ble_eq_true rfl⟩) (fun H locs ho5 hP => ?_)
  obtain rfl := Option.some.inj h
  exact ve_i (v := q4.1) S hF hP hr hk rfl dX6_turn_13
set_option maxRecDepth 100000 in
set_option maxHeartbeats 4000000 in
theorem c_X6_swaps (l : Launch) (P : Pl) (hA : Adr P) (hn : 36 ≤ P.2.2.2.1) (w : Wo) (x1 : Int32) (x2 : Int32) {r : Int32 × Wo} (h : F_X6_swaps w x1 x2 = some r) : CtI l P yX6_swaps cX6_swaps 4 (some .int) 3 [.ref (P.2.1 26), .int x1, .int x2] w r.1 r.2 := by
  have hlt : ∀ h, h < 36 → h < P.2.2.2.1 := fun h q => Nat.lt_of_lt_of_le q hn
  refine vs_met hA (by decide +kernel) (Nat.le_of_ble_eq_true rfl) (fun p e s m args below meth c ls S hF hP hl hr hk => ?_)
  have hx := S.1
  have hb := S.2.1
  replace hl : lv_has ls 4 [(0, .ref (P.2.1 26)), (1, .int x1), (2, .int x2)] := hl
  have hB16 : ∀ (w : Wo), B_X6_swaps_16 w = some r → ∀ (H : Heap) (locs : List Loc) (ls : Array Slot), St P s w H locs → lv_has ls 4 [(0, .ref (P.2.1 26))] → W p l e (rmU 3 0 0) s m args below meth c H locs 0 0 (QI P (some .int) r.1 r.2 below args s) (F0 m 16 ls []) := by
    intro w h H locs ls hP hl
    unfold B_X6_swaps_16 at h
    refine lv_aload_n hx hb dX6_swaps_16 rfl (lv_at hl 0 rfl) ?_
    refine lv_iconst (v := 1) hx hb dX6_swaps_17 (by decide) ?_
    obtain ⟨q3, hq3, h⟩ := ob h
    refine vu_i hP (vu_V S hF hP (h := 26) (hlt _ (by decide)) rfl (by decide) rfl (c_X6_fails l P hA hn w 1 hq3) ok_X6_fails ml_X6_77 ⟨Nat.le_of_ble_eq_true rfl, Nat.le_of_ble_eq_true rfl⟩ rfl hl.1 rfl (Nat.le_of_ble_eq_true rfl) dX6_swaps_18 ⟨Nat.le_of_ble_eq_true rfl, Nat.le_of_ble_eq_true rfl⟩) (fun H locs ho4 hP => ?_)
    obtain rfl := Option.some.inj h
    exact ve_i (v := q3.1) S hF hP hr hk rfl dX6_swaps_21
  have hB83 : ∀ (w : Wo), B_X6_swaps_83 w = some r → ∀ (H : Heap) (locs : List Loc) (ls : Array Slot), St P s w H locs → lv_has ls 4 [(0, .ref (P.2.1 26))] → W p l e (rmU 3 0 0) s m args below meth c H locs 0 0 (QI P (some .int) r.1 r.2 below args s) (F0 m 83 ls []) := by
    intro w h H locs ls hP hl
    unfold B_X6_swaps_83 at h
    refine lv_aload_n hx hb dX6_swaps_83 rfl (lv_at hl 0 rfl) ?_
    refine lv_aload_n hx hb dX6_swaps_84 rfl (lv_at hl 0 rfl) ?_
    obtain ⟨q7, hq7, h⟩ := ob h
    refine vu_i hP (vu_V S hF hP (h := 26) (hlt _ (by decide)) rfl (by decide) rfl (c_X6_homes l P hA hn w hq7) ok_X6_homes ml_X6_134 ⟨Nat.le_of_ble_eq_true rfl, Nat.le_of_ble_eq_true rfl⟩ rfl hl.1 rfl (Nat.le_of_ble_eq_true rfl) dX6_swaps_85 ⟨Nat.le_of_ble_eq_true rfl, Nat.le_of_ble_eq_true rfl⟩) (fun H locs ho8 hP => ?_)
    obtain ⟨q9, hq9, h⟩ := ob h
    refine vu_i hP (vu_V S hF hP (h := 26) (hlt _ (by decide)) rfl (by decide) rfl (c_X6_done l P hA hn q7.2 q7.1 hq9) ok_X6_done ml_X6_81 ⟨Nat.le_of_ble_eq_true rfl, Nat.le_of_ble_eq_true rfl⟩ rfl hl.1 rfl (Nat.le_of_ble_eq_true rfl) dX6_swaps_88 ⟨Nat.le_of_ble_eq_true rfl, Nat.le_of_ble_eq_true rfl⟩) (fun H locs ho10 hP => ?_)
    obtain rfl := Option.some.inj h
    exact ve_i (v := q9.1) S hF hP hr hk rfl dX6_swaps_91
  have hB73 : ∀ (w : Wo), B_X6_swaps_73 w = some r → ∀ (H : Heap) (locs : List Loc) (ls : Array Slot), St P s w H locs → lv_has ls 4 [(0, .ref (P.2.1 26))] → W p l e (rmU 3 0 0) s m args below meth c H locs 0 0 (QI P (some .int) r.1 r.2 below args s) (F0 m 73 ls []) := by
    intro w h H locs ls hP hl
    unfold B_X6_swaps_73 at h
    refine lv_aload_n hx hb dX6_swaps_73 rfl (lv_at hl 0 rfl) ?_
    refine vt_getR (r := 27) S hF hP (k := 0) (ci := 6) 26 (hlt _ (by decide)) rfl (by decide) rfl (by decide) rfl rfl (inC_X6 _) (List.mem_cons_of_mem _ fl_X6_7) dX6_swaps_74 ?_
    refine lv_iconst (v := 3) hx hb dX6_swaps_77 (by decide) ?_
    refine lv_dup2_11 hx hb dX6_swaps_78 rfl rfl ?_
    refine vt_ialdK 3 (by decide) S hF hP (hlt _ (by decide)) rfl (by decide) dX6_swaps_79 ?_
    refine lv_iconst (v := 1) hx hb dX6_swaps_80 (by decide) ?_
    refine lv_iadd hx hb dX6_swaps_81 ?_
    refine vt_iastK 3 (by decide) S hF hP (hlt _ (by decide)) rfl (by decide) dX6_swaps_82 (fun H locs hP => ?_)
    exact hB83 _ h _ _ _ hP (lv_sub hl [0] rfl)
  have hB63 : ∀ (w : Wo) (x2 : Int32) (x3 : Int32), B_X6_swaps_63 w x2 x3 = some r → ∀ (H : Heap) (locs : List Loc) (ls : Array Slot), St P s w H locs → lv_has ls 4 [(0, .ref (P.2.1 26)), (2, .int x2), (3, .int x3)] → W p l e (rmU 3 0 0) s m args below meth c H locs 0 0 (QI P (some .int) r.1 r.2 below args s) (F0 m 63 ls []) := by
    intro w x2 x3 h H locs ls hP hl
    unfold B_X6_swaps_63 at h
    refine lv_aload_n hx hb dX6_swaps_63 rfl (lv_at hl 0 rfl) ?_
    refine vt_getR (r := 27) S hF hP (k := 0) (ci := 6) 26 (hlt _ (by decide)) rfl (by decide) rfl (by decide) rfl rfl (inC_X6 _) (List.mem_cons_of_mem _ fl_X6_7) dX6_swaps_64 ?_
    refine lv_bipush (v := 14) hx hb dX6_swaps_67 (by decide) ?_
    refine lv_iload_n hx hb dX6_swaps_69 rfl (lv_at hl 1 rfl) ?_
    refine lv_iadd hx hb dX6_swaps_70 ?_
    refine lv_iload_n hx hb dX6_swaps_71 rfl (lv_at hl 2 rfl) ?_
    obtain ⟨c13, h⟩ := chk h
    refine vt_iast S hF hP (hlt _ (by decide)) rfl c13 dX6_swaps_72 (fun H locs hP => ?_)
    exact hB73 _ h _ _ _ hP (lv_sub hl [0] rfl)
  have hB45 : ∀ (w : Wo) (x1 : Int32) (x2 : Int32) (x3 : Int32), B_X6_swaps_45 w x1 x2 x3 = some r → ∀ (H : Heap) (locs : List Loc) (ls : Array Slot), St P s w H locs → lv_has ls 4 [(0, .ref (P.2.1 26)), (1, .int x1), (2, .int x2), (3, .int x3)] → W p l e (rmU 3 0 0) s m args below meth c H locs 0 0 (QI P (some .int) r.1 r.2 below args s) (F0 m 45 ls []) := by
    intro w x1 x2 x3 h H locs ls hP hl
    unfold B_X6_swaps_45 at h
    refine lv_aload_n hx hb dX6_swaps_45 rfl (lv_at hl 0 rfl) ?_
    refine vt_getR (r := 27) S hF hP (k := 0) (ci := 6) 26 (hlt _ (by decide)) rfl (by decide) rfl (by decide) rfl rfl (inC_X6 _) (List.mem_cons_of_mem _ fl_X6_7) dX6_swaps_46 ?_
    refine lv_bipush (v := 14) hx hb dX6_swaps_49 (by decide) ?_
    refine lv_iload_n hx hb dX6_swaps_51 rfl (lv_at hl 1 rfl) ?_
    refine lv_iadd hx hb dX6_swaps_52 ?_
    refine lv_aload_n hx hb dX6_swaps_53 rfl (lv_at hl 0 rfl) ?_
    refine vt_getR (r := 27) S hF hP (k := 0) (ci := 6) 26 (hlt _ (by decide)) rfl (by decide) rfl (by decide) rfl rfl (inC_X6 _) (List.mem_cons_of_mem _ fl_X6_7) dX6_swaps_54 ?_
    refine lv_bipush (v := 14) hx hb dX6_swaps_57 (by decide) ?_
    refine lv_iload_n hx hb dX6_swaps_59 rfl (lv_at hl 2 rfl) ?_
    refine lv_iadd hx hb dX6_swaps_60 ?_
    obtain ⟨c14, h⟩ := chk h
    refine vt_iald S hF hP (hlt _ (by decide)) rfl c14 dX6_swaps_61 ?_
    obtain ⟨c15, h⟩ := chk h
    refine vt_iast S hF hP (hlt _ (by decide)) rfl c15 dX6_swaps_62 (fun H locs hP => ?_)
    exact hB63 _ _ _ h _ _ _ hP (lv_sub hl [0, 2, 3] rfl)
  unfold F_X6_swaps at h
  refine lv_aload_n hx hb dX6_swaps_0 rfl (lv_at hl 0 rfl) ?_
  refine lv_iload_n hx hb dX6_swaps_1 rfl (lv_at hl 1 rfl) ?_
  obtain ⟨q1, hq1, h⟩ := ob h
  refine vu_i hP (vu_V S hF hP (h := 26) (hlt _ (by decide)) rfl (by decide) rfl (c_X6_isPlace l P hA hn w x1 hq1) ok_X6_isPlace ml_X6_102 ⟨Nat.le_of_ble_eq_true rfl, Nat.le_of_ble_eq_true rfl⟩ rfl hl.1 rfl (Nat.le_of_ble_eq_true rfl) dX6_swaps_2 ⟨Nat.le_of_ble_eq_true rfl, Nat.le_of_ble_eq_true rfl⟩) (fun H locs ho2 hP => ?_)
  refine lv_if_eq (tgt := 16) hx hb dX6_swaps_5 (by decide) (fun c16 => ?_) (fun c16 => ?_)
  · rw [if_pos c16] at h
    exact hB16 _ h _ _ _ hP (lv_sub hl [0] rfl)
  · rw [if_neg c16] at h
    refine lv_aload_n hx hb dX6_swaps_8 rfl (lv_at hl 0 rfl) ?_
    refine lv_iload_n hx hb dX6_swaps_9 rfl (lv_at hl 2 rfl) ?_
    obtain ⟨q5, hq5, h⟩ := ob h
    refine vu_i hP (vu_V S hF hP (h := 26) (hlt _ (by decide)) rfl (by decide) rfl (c_X6_isPlace l P hA hn w x2 hq5) ok_X6_isPlace ml_X6_102 ⟨Nat.le_of_ble_eq_true rfl, Nat.le_of_ble_eq_true rfl⟩ rfl hl.1 rfl (Nat.le_of_ble_eq_true rfl) dX6_swaps_10 ⟨Nat.le_of_ble_eq_true rfl, Nat.le_of_ble_eq_true rfl⟩) (fun H locs ho6 hP => ?_)
    refine lv_if_ne (tgt := 22) hx hb dX6_swaps_13 (by decide) (fun c17 => ?_) (fun c17 => ?_)
    · rw [if_neg c17] at h
      refine lv_iload_n hx hb dX6_swaps_22 rfl (lv_at hl 1 rfl) ?_
      refine lv_iload_n hx hb dX6_swaps_23 rfl (lv_at hl 2 rfl) ?_
      refine lv_icmp_ne (tgt := 35) hx hb dX6_swaps_24 (by decide) (fun c18 => ?_) (fun c18 => ?_)
      · rw [if_neg c18] at h
        refine lv_aload_n hx hb dX6_swaps_35 rfl (lv_at hl 0 rfl) ?_
        refine vt_getR (r := 27) S hF hP (k := 0) (ci := 6) 26 (hlt _ (by decide)) rfl (by decide) rfl (by decide) rfl rfl (inC_X6 _) (List.mem_cons_of_mem _ fl_X6_7) dX6_swaps_36 ?_
        refine lv_bipush (v := 14) hx hb dX6_swaps_39 (by decide) ?_
        refine lv_iload_n hx hb dX6_swaps_41 rfl (lv_at hl 1 rfl) ?_
        refine lv_iadd hx hb dX6_swaps_42 ?_
        obtain ⟨c19, h⟩ := chk h
        refine vt_iald S hF hP (hlt _ (by decide)) rfl c19 dX6_swaps_43 ?_
        refine lv_istore_n (lv' := [(3, .int (gI w 27 (Int32.toNatClampNeg ((14 : Int32) + x1)))), (0, .ref (P.2.1 26)), (1, .int x1), (2, .int x2)]) hx hb dX6_swaps_44 rfl hl (by decide) rfl (fun ls hl => ?_)
        exact hB45 _ _ _ _ h _ _ _ hP (lv_sub hl [1, 2, 3, 0] rfl)
      · rw [if_pos c18] at h
        refine lv_aload_n hx hb dX6_swaps_27 rfl (lv_at hl 0 rfl) ?_
        refine lv_iconst (v := 3) hx hb dX6_swaps_28 (by decide) ?_
        refine lv_iload_n hx hb dX6_swaps_29 rfl (lv_at hl 1 rfl) ?_
        refine lv_iconst (v := 2) hx hb dX6_swaps_30 (by decide) ?_
        obtain ⟨q11, hq11, h⟩ := ob h
        refine vu_i hP (vu_V S hF hP (h := 26) (hlt _ (by decide)) rfl (by decide) rfl (c_X6_refused l P hA hn w 3 x1 2 hq11) ok_X6_refused ml_X6_94 ⟨Nat.le_of_ble_eq_true rfl, Nat.le_of_ble_eq_true rfl⟩ rfl hl.1 rfl (Nat.le_of_ble_eq_true rfl) dX6_swaps_31 ⟨Nat.le_of_ble_eq_true rfl, Nat.le_of_ble_eq_true rfl⟩) (fun H locs ho12 hP => ?_)
        obtain rfl := Option.some.inj h
        exact ve_i (v := q11.1) S hF hP hr hk rfl dX6_swaps_34
    · rw [if_pos c17] at h
      exact hB16 _ h _ _ _ hP (lv_sub hl [0] rfl)
set_option maxRecDepth 100000 in
set_option maxHeartbeats 4000000 in
theorem c_X6_swap (l : Launch) (P : Pl) (hA : Adr P) (hn : 36 ≤ P.2.2.2.1) (w : Wo) (x1 : Int32) (x2 : Int32) {r : Int32 × Wo} (h : F_X6_swap w x1 x2 = some r) : CtI l P yX6_swap cX6_swap 3 (some .int) 4 [.ref (P.2.1 26), .int x1, .int x2] w r.1 r.2 := by
  have hlt : ∀ h, h < 36 → h < P.2.2.2.1 := fun h q => Nat.lt_of_lt_of_le q hn
  refine vs_met hA (by decide +kernel) (Nat.le_of_ble_eq_true rfl) (fun p e s m args below meth c ls S hF hP hl hr hk => ?_)
  have hx := S.1
  have hb := S.2.1
  replace hl : lv_has ls 3 [(0, .ref (P.2.1 26)), (1, .int x1), (2, .int x2)] := hl
  unfold F_X6_swap at h
  refine lv_aload_n hx hb dX6_swap_0 rfl (lv_at hl 0 rfl) ?_
  obtain ⟨q1, hq1, h⟩ := ob h
  refine vu_v hP (vu_V S hF hP (h := 26) (hlt _ (by decide)) rfl (by decide) rfl (c_X6_looksBack l P hA hn w hq1) ok_X6_looksBack ml_X6_84 ⟨Nat.le_of_ble_eq_true rfl, Nat.le_of_ble_eq_true rfl⟩ rfl hl.1 rfl (Nat.le_of_ble_eq_true rfl) dX6_swap_1 ⟨Nat.le_of_ble_eq_true rfl, Nat.le_of_ble_eq_true rfl⟩) (fun H locs hP => ?_)
  refine lv_aload_n hx hb dX6_swap_4 rfl (lv_at hl 0 rfl) ?_
  refine lv_aload_n hx hb dX6_swap_5 rfl (lv_at hl 0 rfl) ?_
  refine lv_iload_n hx hb dX6_swap_6 rfl (lv_at hl 1 rfl) ?_
  refine lv_iload_n hx hb dX6_swap_7 rfl (lv_at hl 2 rfl) ?_
  obtain ⟨q2, hq2, h⟩ := ob h
  refine vu_i hP (vu_V S hF hP (h := 26) (hlt _ (by decide)) rfl (by decide) rfl (c_X6_swaps l P hA hn q1 x1 x2 hq2) ok_X6_swaps ml_X6_152 ⟨Nat.le_of_ble_eq_true rfl, Nat.le_of_ble_eq_true rfl⟩ rfl hl.1 rfl (Nat.le_of_ble_eq_true rfl) dX6_swap_8 ⟨Nat.le_of_ble_eq_true rfl, Nat.le_of_ble_eq_true rfl⟩) (fun H locs ho3 hP => ?_)
  obtain ⟨q4, hq4, h⟩ := ob h
  refine vu_i hP (vu_V S hF hP (h := 26) (hlt _ (by decide)) rfl (by decide) rfl (c_X6_kept l P hA hn q2.2 q2.1 hq4) ok_X6_kept ml_X6_91 ⟨Nat.le_of_ble_eq_true rfl, Nat.le_of_ble_eq_true rfl⟩ rfl hl.1 rfl (Nat.le_of_ble_eq_true rfl) dX6_swap_11 ⟨Nat.le_of_ble_eq_true rfl, Nat.le_of_ble_eq_true rfl⟩) (fun H locs ho5 hP => ?_)
  obtain rfl := Option.some.inj h
  exact ve_i (v := q4.1) S hF hP hr hk rfl dX6_swap_14
set_option maxRecDepth 100000 in
set_option maxHeartbeats 4000000 in
theorem c_X6_bars (l : Launch) (P : Pl) (hA : Adr P) (hn : 36 ≤ P.2.2.2.1) (w : Wo) (x1 : Int32) {r : Int32 × Wo} (h : F_X6_bars w x1 = some r) : CtI l P yX6_bars cX6_bars 2 (some .int) 2 [.ref (P.2.1 26), .int x1] w r.1 r.2 := by
  have hlt : ∀ h, h < 36 → h < P.2.2.2.1 := fun h q => Nat.lt_of_lt_of_le q hn
  refine vs_met hA (by decide +kernel) (Nat.le_of_ble_eq_true rfl) (fun p e s m args below meth c ls S hF hP hl hr hk => ?_)
  have hx := S.1
  have hb := S.2.1
  replace hl : lv_has ls 2 [(0, .ref (P.2.1 26)), (1, .int x1)] := hl
  have hB34 : ∀ (w : Wo) (x1 : Int32), B_X6_bars_34 w x1 = some r → ∀ (H : Heap) (locs : List Loc) (ls : Array Slot), St P s w H locs → lv_has ls 2 [(0, .ref (P.2.1 26)), (1, .int x1)] → W p l e (rmU 2 0 0) s m args below meth c H locs 0 0 (QI P (some .int) r.1 r.2 below args s) (F0 m 34 ls []) := by
    intro w x1 h H locs ls hP hl
    unfold B_X6_bars_34 at h
    refine lv_aload_n hx hb dX6_bars_34 rfl (lv_at hl 0 rfl) ?_
    refine lv_aload_n hx hb dX6_bars_35 rfl (lv_at hl 0 rfl) ?_
    refine vt_getR (r := 27) S hF hP (k := 0) (ci := 6) 26 (hlt _ (by decide)) rfl (by decide) rfl (by decide) rfl rfl (inC_X6 _) (List.mem_cons_of_mem _ fl_X6_7) dX6_bars_36 ?_
    refine lv_bipush (v := 8) hx hb dX6_bars_39 (by decide) ?_
    refine lv_iload_n hx hb dX6_bars_41 rfl (lv_at hl 1 rfl) ?_
    refine lv_iadd hx hb dX6_bars_42 ?_
    obtain ⟨c7, h⟩ := chk h
    refine vt_iald S hF hP (hlt _ (by decide)) rfl c7 dX6_bars_43 ?_
    obtain ⟨q3, hq3, h⟩ := ob h
    refine vu_i hP (vu_V S hF hP (h := 26) (hlt _ (by decide)) rfl (by decide) rfl (c_X6_done l P hA hn w (gI w 27 (Int32.toNatClampNeg ((8 : Int32) + x1))) hq3) ok_X6_done ml_X6_81 ⟨Nat.le_of_ble_eq_true rfl, Nat.le_of_ble_eq_true rfl⟩ rfl hl.1 rfl (Nat.le_of_ble_eq_true rfl) dX6_bars_44 ⟨Nat.le_of_ble_eq_true rfl, Nat.le_of_ble_eq_true rfl⟩) (fun H locs ho4 hP => ?_)
    obtain rfl := Option.some.inj h
    exact ve_i (v := q3.1) S hF hP hr hk rfl dX6_bars_47
  unfold F_X6_bars at h
  refine lv_aload_n hx hb dX6_bars_0 rfl (lv_at hl 0 rfl) ?_
  refine lv_iload_n hx hb dX6_bars_1 rfl (lv_at hl 1 rfl) ?_
  obtain ⟨q1, hq1, h⟩ := ob h
  refine vu_i hP (vu_V S hF hP (h := 26) (hlt _ (by decide)) rfl (by decide) rfl (c_X6_isLine l P hA hn w x1 hq1) ok_X6_isLine ml_X6_155 ⟨Nat.le_of_ble_eq_true rfl, Nat.le_of_ble_eq_true rfl⟩ rfl hl.1 rfl (Nat.le_of_ble_eq_true rfl) dX6_bars_2 ⟨Nat.le_of_ble_eq_true rfl, Nat.le_of_ble_eq_true rfl⟩) (fun H locs ho2 hP => ?_)
  refine lv_if_ne (tgt := 14) hx hb dX6_bars_5 (by decide) (fun c8 => ?_) (fun c8 => ?_)
  · rw [if_neg c8] at h
    refine lv_aload_n hx hb dX6_bars_14 rfl (lv_at hl 0 rfl) ?_
    refine vt_getR (r := 27) S hF hP (k := 0) (ci := 6) 26 (hlt _ (by decide)) rfl (by decide) rfl (by decide) rfl rfl (inC_X6 _) (List.mem_cons_of_mem _ fl_X6_7) dX6_bars_15 ?_
    refine lv_bipush (v := 8) hx hb dX6_bars_18 (by decide) ?_
    refine lv_iload_n hx hb dX6_bars_20 rfl (lv_at hl 1 rfl) ?_
    refine lv_iadd hx hb dX6_bars_21 ?_
    refine lv_iconst (v := 1) hx hb dX6_bars_22 (by decide) ?_
    refine lv_aload_n hx hb dX6_bars_23 rfl (lv_at hl 0 rfl) ?_
    refine vt_getR (r := 27) S hF hP (k := 0) (ci := 6) 26 (hlt _ (by decide)) rfl (by decide) rfl (by decide) rfl rfl (inC_X6 _) (List.mem_cons_of_mem _ fl_X6_7) dX6_bars_24 ?_
    refine lv_bipush (v := 8) hx hb dX6_bars_27 (by decide) ?_
    refine lv_iload_n hx hb dX6_bars_29 rfl (lv_at hl 1 rfl) ?_
    refine lv_iadd hx hb dX6_bars_30 ?_
    obtain ⟨c9, h⟩ := chk h
    refine vt_iald S hF hP (hlt _ (by decide)) rfl c9 dX6_bars_31 ?_
    refine lv_isub hx hb dX6_bars_32 ?_
    obtain ⟨c10, h⟩ := chk h
    refine vt_iast S hF hP (hlt _ (by decide)) rfl c10 dX6_bars_33 (fun H locs hP => ?_)
    exact hB34 _ _ h _ _ _ hP (lv_sub hl [0, 1] rfl)
  · rw [if_pos c8] at h
    refine lv_aload_n hx hb dX6_bars_8 rfl (lv_at hl 0 rfl) ?_
    refine lv_iconst (v := 1) hx hb dX6_bars_9 (by decide) ?_
    obtain ⟨q5, hq5, h⟩ := ob h
    refine vu_i hP (vu_V S hF hP (h := 26) (hlt _ (by decide)) rfl (by decide) rfl (c_X6_fails l P hA hn w 1 hq5) ok_X6_fails ml_X6_77 ⟨Nat.le_of_ble_eq_true rfl, Nat.le_of_ble_eq_true rfl⟩ rfl hl.1 rfl (Nat.le_of_ble_eq_true rfl) dX6_bars_10 ⟨Nat.le_of_ble_eq_true rfl, Nat.le_of_ble_eq_true rfl⟩) (fun H locs ho6 hP => ?_)
    obtain rfl := Option.some.inj h
    exact ve_i (v := q5.1) S hF hP hr hk rfl dX6_bars_13
set_option maxRecDepth 100000 in
set_option maxHeartbeats 4000000 in
theorem c_X6_bar (l : Launch) (P : Pl) (hA : Adr P) (hn : 36 ≤ P.2.2.2.1) (w : Wo) (x1 : Int32) {r : Int32 × Wo} (h : F_X6_bar w x1 = some r) : CtI l P yX6_bar cX6_bar 2 (some .boolean) 3 [.ref (P.2.1 26), .int x1] w r.1 r.2 := by
  have hlt : ∀ h, h < 36 → h < P.2.2.2.1 := fun h q => Nat.lt_of_lt_of_le q hn
  refine vs_met hA (by decide +kernel) (Nat.le_of_ble_eq_true rfl) (fun p e s m args below meth c ls S hF hP hl hr hk => ?_)
  have hx := S.1
  have hb := S.2.1
  replace hl : lv_has ls 2 [(0, .ref (P.2.1 26)), (1, .int x1)] := hl
  unfold F_X6_bar at h
  refine lv_aload_n hx hb dX6_bar_0 rfl (lv_at hl 0 rfl) ?_
  obtain ⟨q1, hq1, h⟩ := ob h
  refine vu_v hP (vu_V S hF hP (h := 26) (hlt _ (by decide)) rfl (by decide) rfl (c_X6_looksBack l P hA hn w hq1) ok_X6_looksBack ml_X6_84 ⟨Nat.le_of_ble_eq_true rfl, Nat.le_of_ble_eq_true rfl⟩ rfl hl.1 rfl (Nat.le_of_ble_eq_true rfl) dX6_bar_1 ⟨Nat.le_of_ble_eq_true rfl, Nat.le_of_ble_eq_true rfl⟩) (fun H locs hP => ?_)
  refine lv_aload_n hx hb dX6_bar_4 rfl (lv_at hl 0 rfl) ?_
  refine lv_aload_n hx hb dX6_bar_5 rfl (lv_at hl 0 rfl) ?_
  refine lv_iload_n hx hb dX6_bar_6 rfl (lv_at hl 1 rfl) ?_
  obtain ⟨q2, hq2, h⟩ := ob h
  refine vu_i hP (vu_V S hF hP (h := 26) (hlt _ (by decide)) rfl (by decide) rfl (c_X6_bars l P hA hn q1 x1 hq2) ok_X6_bars ml_X6_158 ⟨Nat.le_of_ble_eq_true rfl, Nat.le_of_ble_eq_true rfl⟩ rfl hl.1 rfl (Nat.le_of_ble_eq_true rfl) dX6_bar_7 ⟨Nat.le_of_ble_eq_true rfl, Nat.le_of_ble_eq_true rfl⟩) (fun H locs ho3 hP => ?_)
  obtain ⟨q4, hq4, h⟩ := ob h
  refine vu_i hP (vu_V S hF hP (h := 26) (hlt _ (by decide)) rfl (by decide) rfl (c_X6_kept l P hA hn q2.2 q2.1 hq4) ok_X6_kept ml_X6_91 ⟨Nat.le_of_ble_eq_true rfl, Nat.le_of_ble_eq_true rfl⟩ rfl hl.1 rfl (Nat.le_of_ble_eq_true rfl) dX6_bar_10 ⟨Nat.le_of_ble_eq_true rfl, Nat.le_of_ble_eq_true rfl⟩) (fun H locs ho5 hP => ?_)
  refine lv_iconst (v := 1) hx hb dX6_bar_13 (by decide) ?_
  refine lv_icmp_ne (tgt := 21) hx hb dX6_bar_14 (by decide) (fun c6 => ?_) (fun c6 => ?_)
  · rw [if_neg c6] at h
    refine lv_iconst (v := 0) hx hb dX6_bar_21 (by decide) ?_
    obtain rfl := Option.some.inj h
    exact ve_i (v := 0) S hF hP hr hk rfl dX6_bar_22
  · rw [if_pos c6] at h
    refine lv_iconst (v := 1) hx hb dX6_bar_17 (by decide) ?_
    refine lv_goto (tgt := 22) hx hb dX6_bar_18 (by decide) ?_
    obtain rfl := Option.some.inj h
    exact ve_i (v := 1) S hF hP hr hk rfl dX6_bar_22
set_option maxRecDepth 100000 in
set_option maxHeartbeats 4000000 in
theorem c_X6_scrambles (l : Launch) (P : Pl) (hA : Adr P) (hn : 36 ≤ P.2.2.2.1) (w : Wo) (x1 : Int32) (x2 : Int32) {r : Int32 × Wo} (h : F_X6_scrambles w x1 x2 = some r) : CtI l P yX6_scrambles cX6_scrambles 8 (some .int) 3 [.ref (P.2.1 26), .int x1, .int x2] w r.1 r.2 := by
  have hlt : ∀ h, h < 36 → h < P.2.2.2.1 := fun h q => Nat.lt_of_lt_of_le q hn
  refine vs_met hA (by decide +kernel) (Nat.le_of_ble_eq_true rfl) (fun p e s m args below meth c ls S hF hP hl hr hk => ?_)
  have hx := S.1
  have hb := S.2.1
  replace hl : lv_has ls 8 [(0, .ref (P.2.1 26)), (1, .int x1), (2, .int x2)] := hl
  have hB21 : ∀ (w : Wo), B_X6_scrambles_21 w = some r → ∀ (H : Heap) (locs : List Loc) (ls : Array Slot), St P s w H locs → lv_has ls 8 [(0, .ref (P.2.1 26))] → W p l e (rmU 3 0 0) s m args below meth c H locs 0 0 (QI P (some .int) r.1 r.2 below args s) (F0 m 21 ls []) := by
    intro w h H locs ls hP hl
    unfold B_X6_scrambles_21 at h
    refine lv_aload_n hx hb dX6_scrambles_21 rfl (lv_at hl 0 rfl) ?_
    refine lv_iconst (v := 1) hx hb dX6_scrambles_22 (by decide) ?_
    obtain ⟨q2, hq2, h⟩ := ob h
    refine vu_i hP (vu_V S hF hP (h := 26) (hlt _ (by decide)) rfl (by decide) rfl (c_X6_fails l P hA hn w 1 hq2) ok_X6_fails ml_X6_77 ⟨Nat.le_of_ble_eq_true rfl, Nat.le_of_ble_eq_true rfl⟩ rfl hl.1 rfl (Nat.le_of_ble_eq_true rfl) dX6_scrambles_23 ⟨Nat.le_of_ble_eq_true rfl, Nat.le_of_ble_eq_true rfl⟩) (fun H locs ho3 hP => ?_)
    obtain rfl := Option.some.inj h
    exact ve_i (v := q2.1) S hF hP hr hk rfl dX6_scrambles_26
  have hB99 : ∀ (w : Wo) (x4 : Int32), B_X6_scrambles_99 w x4 = some r → ∀ (H : Heap) (locs : List Loc) (ls : Array Slot), St P s w H locs → lv_has ls 8 [(0, .ref (P.2.1 26)), (4, .int x4)] → W p l e (rmU 3 0 0) s m args below meth c H locs 0 0 (QI P (some .int) r.1 r.2 below args s) (F0 m 99 ls []) := by
    intro w x4 h H locs ls hP hl
    unfold B_X6_scrambles_99 at h
    refine lv_aload_n hx hb dX6_scrambles_99 rfl (lv_at hl 0 rfl) ?_
    refine lv_iload hx hb dX6_scrambles_100 (lv_at hl 1 rfl) ?_
    obtain ⟨q5, hq5, h⟩ := ob h
    refine vu_i hP (vu_V S hF hP (h := 26) (hlt _ (by decide)) rfl (by decide) rfl (c_X6_done l P hA hn w x4 hq5) ok_X6_done ml_X6_81 ⟨Nat.le_of_ble_eq_true rfl, Nat.le_of_ble_eq_true rfl⟩ rfl hl.1 rfl (Nat.le_of_ble_eq_true rfl) dX6_scrambles_102 ⟨Nat.le_of_ble_eq_true rfl, Nat.le_of_ble_eq_true rfl⟩) (fun H locs ho6 hP => ?_)
    obtain rfl := Option.some.inj h
    exact ve_i (v := q5.1) S hF hP hr hk rfl dX6_scrambles_105
  have hB89 : ∀ (w : Wo) (x4 : Int32), B_X6_scrambles_89 w x4 = some r → ∀ (H : Heap) (locs : List Loc) (ls : Array Slot), St P s w H locs → lv_has ls 8 [(0, .ref (P.2.1 26)), (4, .int x4)] → W p l e (rmU 3 0 0) s m args below meth c H locs 0 0 (QI P (some .int) r.1 r.2 below args s) (F0 m 89 ls []) := by
    intro w x4 h H locs ls hP hl
    unfold B_X6_scrambles_89 at h
    refine lv_aload_n hx hb dX6_scrambles_89 rfl (lv_at hl 0 rfl) ?_
    refine vt_getR (r := 27) S hF hP (k := 0) (ci := 6) 26 (hlt _ (by decide)) rfl (by decide) rfl (by decide) rfl rfl (inC_X6 _) (List.mem_cons_of_mem _ fl_X6_7) dX6_scrambles_90 ?_
    refine lv_iconst (v := 4) hx hb dX6_scrambles_93 (by decide) ?_
    refine lv_dup2_11 hx hb dX6_scrambles_94 rfl rfl ?_
    refine vt_ialdK 4 (by decide) S hF hP (hlt _ (by decide)) rfl (by decide) dX6_scrambles_95 ?_
    refine lv_iconst (v := 1) hx hb dX6_scrambles_96 (by decide) ?_
    refine lv_iadd hx hb dX6_scrambles_97 ?_
    refine vt_iastK 4 (by decide) S hF hP (hlt _ (by decide)) rfl (by decide) dX6_scrambles_98 (fun H locs hP => ?_)
    exact hB99 _ _ h _ _ _ hP (lv_sub hl [0, 1] rfl)
  have hL35 : ∀ (x2 : Int32) (n : Nat) (w : Wo) (x3 : Int32) (x4 : Int32) (x5 : Int32), jl4 (B_X6_scrambles_35 x2) n w x3 x4 x5 = some r → ∀ (H : Heap) (locs : List Loc) (ls : Array Slot), St P s w H locs → lv_has ls 8 [(0, .ref (P.2.1 26)), (2, .int x2), (3, .int x3), (4, .int x4), (5, .int x5)] → W p l e (rmU 3 0 0) s m args below meth c H locs 0 0 (QI P (some .int) r.1 r.2 below args s) (F0 m 35 ls []) := by
    intro x2
    intro n
    induction n with
    | zero =>
      intro w x3 x4 x5 h
      cases h
    | succ n ih35 =>
      intro w x3 x4 x5 h H locs ls hP hl
      replace h : B_X6_scrambles_35 x2 (jl4 (B_X6_scrambles_35 x2) n) w x3 x4 x5 = some r := h
      revert h ih35
      generalize jl4 (B_X6_scrambles_35 x2) n = k35
      intro ih35 h
      have hB83 : ∀ (w : Wo) (x3 : Int32) (x4 : Int32) (x5 : Int32), B_X6_scrambles_83 k35 w x2 x3 x4 x5 = some r → ∀ (H : Heap) (locs : List Loc) (ls : Array Slot), St P s w H locs → lv_has ls 8 [(0, .ref (P.2.1 26)), (2, .int x2), (3, .int x3), (4, .int x4), (5, .int x5)] → W p l e (rmU 3 0 0) s m args below meth c H locs 0 0 (QI P (some .int) r.1 r.2 below args s) (F0 m 83 ls []) := by
        intro w x3 x4 x5 h H locs ls hP hl
        unfold B_X6_scrambles_83 at h
        refine lv_iinc (v := (x5 + 1)) (lv' := [(5, .int (x5 + 1)), (0, .ref (P.2.1 26)), (2, .int x2), (3, .int x3), (4, .int x4)]) hx hb dX6_scrambles_83 hl (k := 4) rfl rfl (by decide) rfl (fun ls hl => ?_)
        refine lv_goto (tgt := 35) hx hb dX6_scrambles_86 (by decide) ?_
        exact ih35 _ _ _ _ h _ _ _ hP (lv_sub hl [1, 2, 3, 4, 0] rfl)
      have hB53 : ∀ (w : Wo) (x3 : Int32) (x4 : Int32) (x5 : Int32), B_X6_scrambles_53 k35 w x2 x3 x4 x5 = some r → ∀ (H : Heap) (locs : List Loc) (ls : Array Slot), St P s w H locs → lv_has ls 8 [(0, .ref (P.2.1 26)), (2, .int x2), (3, .int x3), (4, .int x4), (5, .int x5)] → W p l e (rmU 3 0 0) s m args below meth c H locs 0 0 (QI P (some .int) r.1 r.2 below args s) (F0 m 53 ls []) := by
        intro w x3 x4 x5 h H locs ls hP hl
        unfold B_X6_scrambles_53 at h
        refine lv_iload_n hx hb dX6_scrambles_53 rfl (lv_at hl 2 rfl) ?_
        refine lv_iconst (v := 2) hx hb dX6_scrambles_54 (by decide) ?_
        refine lv_aload_n hx hb dX6_scrambles_55 rfl (lv_at hl 0 rfl) ?_
        obtain ⟨q7, hq7, h⟩ := ob h
        refine vu_i hP (vu_V S hF hP (h := 26) (hlt _ (by decide)) rfl (by decide) rfl (c_X6_lines l P hA hn w hq7) ok_X6_lines ml_X6_74 ⟨Nat.le_of_ble_eq_true rfl, Nat.le_of_ble_eq_true rfl⟩ rfl hl.1 rfl (Nat.le_of_ble_eq_true rfl) dX6_scrambles_56 ⟨Nat.le_of_ble_eq_true rfl, Nat.le_of_ble_eq_true rfl⟩) (fun H locs ho8 hP => ?_)
        refine lv_imul hx hb dX6_scrambles_59 ?_
        obtain ⟨c13, h⟩ := chk h
        refine lv_irem hx hb dX6_scrambles_60 c13 ?_
        refine lv_istore (lv' := [(6, .int (jrem x3 ((2 : Int32) * q7))), (0, .ref (P.2.1 26)), (2, .int x2), (3, .int x3), (4, .int x4), (5, .int x5)]) hx hb dX6_scrambles_61 hl (by decide) rfl (fun ls hl => ?_)
        refine lv_aload_n hx hb dX6_scrambles_63 rfl (lv_at hl 1 rfl) ?_
        refine lv_iload hx hb dX6_scrambles_64 (lv_at hl 0 rfl) ?_
        obtain ⟨q9, hq9, h⟩ := ob h
        refine vu_i hP (vu_V S hF hP (h := 26) (hlt _ (by decide)) rfl (by decide) rfl (c_X6_isOpen l P hA hn w (jrem x3 ((2 : Int32) * q7)) hq9) ok_X6_isOpen ml_X6_143 ⟨Nat.le_of_ble_eq_true rfl, Nat.le_of_ble_eq_true rfl⟩ rfl hl.1 rfl (Nat.le_of_ble_eq_true rfl) dX6_scrambles_66 ⟨Nat.le_of_ble_eq_true rfl, Nat.le_of_ble_eq_true rfl⟩) (fun H locs ho10 hP => ?_)
        refine lv_if_eq (tgt := 83) hx hb dX6_scrambles_69 (by decide) (fun c14 => ?_) (fun c14 => ?_)
        · rw [if_pos c14] at h
          exact hB83 _ _ _ _ h _ _ _ hP (lv_sub hl [1, 2, 3, 4, 5] rfl)
        · rw [if_neg c14] at h
          refine lv_aload_n hx hb dX6_scrambles_72 rfl (lv_at hl 1 rfl) ?_
          refine lv_iload hx hb dX6_scrambles_73 (lv_at hl 0 rfl) ?_
          obtain ⟨q11, hq11, h⟩ := ob h
          refine vu_i hP (vu_V S hF hP (h := 26) (hlt _ (by decide)) rfl (by decide) rfl (c_X6_makes l P hA hn w (jrem x3 ((2 : Int32) * q7)) hq11) ok_X6_makes ml_X6_137 ⟨Nat.le_of_ble_eq_true rfl, Nat.le_of_ble_eq_true rfl⟩ rfl hl.1 rfl (Nat.le_of_ble_eq_true rfl) dX6_scrambles_75 ⟨Nat.le_of_ble_eq_true rfl, Nat.le_of_ble_eq_true rfl⟩) (fun H locs ho12 hP => ?_)
          refine lv_istore (lv' := [(7, .int q11.1), (6, .int (jrem x3 ((2 : Int32) * q7))), (0, .ref (P.2.1 26)), (2, .int x2), (3, .int x3), (4, .int x4), (5, .int x5)]) hx hb dX6_scrambles_78 hl (by decide) rfl (fun ls hl => ?_)
          refine lv_iinc (v := (x4 + 1)) (lv' := [(4, .int (x4 + 1)), (7, .int q11.1), (6, .int (jrem x3 ((2 : Int32) * q7))), (0, .ref (P.2.1 26)), (2, .int x2), (3, .int x3), (5, .int x5)]) hx hb dX6_scrambles_80 hl (k := 5) rfl rfl (by decide) rfl (fun ls hl => ?_)
          exact hB83 _ _ _ _ h _ _ _ hP (lv_sub hl [3, 4, 5, 0, 6] rfl)
      unfold B_X6_scrambles_35 at h
      refine lv_iload hx hb dX6_scrambles_35 (lv_at hl 4 rfl) ?_
      refine lv_iload_n hx hb dX6_scrambles_37 rfl (lv_at hl 1 rfl) ?_
      refine lv_icmp_ge (tgt := 89) hx hb dX6_scrambles_38 (by decide) (fun c15 => ?_) (fun c15 => ?_)
      · rw [if_pos c15] at h
        exact hB89 _ _ h _ _ _ hP (lv_sub hl [0, 3] rfl)
      · rw [if_neg c15] at h
        refine lv_bipush (v := 73) hx hb dX6_scrambles_41 (by decide) ?_
        refine lv_iload_n hx hb dX6_scrambles_43 rfl (lv_at hl 2 rfl) ?_
        refine lv_imul hx hb dX6_scrambles_44 ?_
        refine lv_bipush (v := 41) hx hb dX6_scrambles_45 (by decide) ?_
        refine lv_iadd hx hb dX6_scrambles_47 ?_
        refine lv_sipush (v := 1000) hx hb dX6_scrambles_48 (by decide) ?_
        refine lv_irem hx hb dX6_scrambles_51 (by decide) ?_
        refine lv_istore_n (lv' := [(3, .int (jrem (((73 : Int32) * x3) + (41 : Int32)) (1000 : Int32))), (0, .ref (P.2.1 26)), (2, .int x2), (4, .int x4), (5, .int x5)]) hx hb dX6_scrambles_52 rfl hl (by decide) rfl (fun ls hl => ?_)
        exact hB53 _ _ _ _ h _ _ _ hP (lv_sub hl [1, 2, 0, 3, 4] rfl)
  unfold F_X6_scrambles at h
  refine lv_iload_n hx hb dX6_scrambles_0 rfl (lv_at hl 1 rfl) ?_
  refine lv_iconst (v := 0) hx hb dX6_scrambles_1 (by decide) ?_
  refine lv_sipush (v := 999) hx hb dX6_scrambles_2 (by decide) ?_
  refine vu_i hP (vu_S S hF hP (c_X6_in l P hA hn w x1 0 999) ok_X6_in ml_X6_70 ⟨Nat.le_of_ble_eq_true rfl, Nat.le_of_ble_eq_true rfl⟩ rfl hl.1 rfl (Nat.le_of_ble_eq_true rfl) dX6_scrambles_5 ⟨Nat.le_of_ble_eq_true rfl, Nat.le_of_ble_eq_true rfl⟩) (fun H locs ho1 hP => ?_)
  refine lv_if_eq (tgt := 21) hx hb dX6_scrambles_8 (by decide) (fun c16 => ?_) (fun c16 => ?_)
  · rw [if_pos c16] at h
    exact hB21 _ h _ _ _ hP (lv_sub hl [0] rfl)
  · rw [if_neg c16] at h
    refine lv_iload_n hx hb dX6_scrambles_11 rfl (lv_at hl 2 rfl) ?_
    refine lv_iconst (v := 1) hx hb dX6_scrambles_12 (by decide) ?_
    refine lv_bipush (v := 9) hx hb dX6_scrambles_13 (by decide) ?_
    refine vu_i hP (vu_S S hF hP (c_X6_in l P hA hn w x2 1 9) ok_X6_in ml_X6_70 ⟨Nat.le_of_ble_eq_true rfl, Nat.le_of_ble_eq_true rfl⟩ rfl hl.1 rfl (Nat.le_of_ble_eq_true rfl) dX6_scrambles_15 ⟨Nat.le_of_ble_eq_true rfl, Nat.le_of_ble_eq_true rfl⟩) (fun H locs ho4 hP => ?_)
    refine lv_if_ne (tgt := 27) hx hb dX6_scrambles_18 (by decide) (fun c17 => ?_) (fun c17 => ?_)
    · rw [if_neg c17] at h
      refine lv_iload_n hx hb dX6_scrambles_27 rfl (lv_at hl 1 rfl) ?_
      refine lv_istore_n (lv' := [(3, .int x1), (0, .ref (P.2.1 26)), (1, .int x1), (2, .int x2)]) hx hb dX6_scrambles_28 rfl hl (by decide) rfl (fun ls hl => ?_)
      refine lv_iconst (v := 0) hx hb dX6_scrambles_29 (by decide) ?_
      refine lv_istore (lv' := [(4, .int 0), (3, .int x1), (0, .ref (P.2.1 26)), (1, .int x1), (2, .int x2)]) hx hb dX6_scrambles_30 hl (by decide) rfl (fun ls hl => ?_)
      refine lv_iconst (v := 0) hx hb dX6_scrambles_32 (by decide) ?_
      refine lv_istore (lv' := [(5, .int 0), (4, .int 0), (3, .int x1), (0, .ref (P.2.1 26)), (1, .int x1), (2, .int x2)]) hx hb dX6_scrambles_33 hl (by decide) rfl (fun ls hl => ?_)
      exact hL35 _ fu _ _ _ _ h _ _ _ hP (lv_sub hl [3, 5, 2, 1, 0] rfl)
    · rw [if_pos c17] at h
      exact hB21 _ h _ _ _ hP (lv_sub hl [0] rfl)
set_option maxRecDepth 100000 in
set_option maxHeartbeats 4000000 in
theorem c_X6_scramble (l : Launch) (P : Pl) (hA : Adr P) (hn : 36 ≤ P.2.2.2.1) (w : Wo) (x1 : Int32) (x2 : Int32) {r : Int32 × Wo} (h : F_X6_scramble w x1 x2 = some r) : CtI l P yX6_scramble cX6_scramble 3 (some .int) 4 [.ref (P.2.1 26), .int x1, .int x2] w r.1 r.2 := by
  have hlt : ∀ h, h < 36 → h < P.2.2.2.1 := fun h q => Nat.lt_of_lt_of_le q hn
  refine vs_met hA (by decide +kernel) (Nat.le_of_ble_eq_true rfl) (fun p e s m args below meth c ls S hF hP hl hr hk => ?_)
  have hx := S.1
  have hb := S.2.1
  replace hl : lv_has ls 3 [(0, .ref (P.2.1 26)), (1, .int x1), (2, .int x2)] := hl
  unfold F_X6_scramble at h
  refine lv_aload_n hx hb dX6_scramble_0 rfl (lv_at hl 0 rfl) ?_
  obtain ⟨q1, hq1, h⟩ := ob h
  refine vu_v hP (vu_V S hF hP (h := 26) (hlt _ (by decide)) rfl (by decide) rfl (c_X6_looksBack l P hA hn w hq1) ok_X6_looksBack ml_X6_84 ⟨Nat.le_of_ble_eq_true rfl, Nat.le_of_ble_eq_true rfl⟩ rfl hl.1 rfl (Nat.le_of_ble_eq_true rfl) dX6_scramble_1 ⟨Nat.le_of_ble_eq_true rfl, Nat.le_of_ble_eq_true rfl⟩) (fun H locs hP => ?_)
  refine lv_aload_n hx hb dX6_scramble_4 rfl (lv_at hl 0 rfl) ?_
  refine lv_aload_n hx hb dX6_scramble_5 rfl (lv_at hl 0 rfl) ?_
  refine lv_iload_n hx hb dX6_scramble_6 rfl (lv_at hl 1 rfl) ?_
  refine lv_iload_n hx hb dX6_scramble_7 rfl (lv_at hl 2 rfl) ?_
  obtain ⟨q2, hq2, h⟩ := ob h
  refine vu_i hP (vu_V S hF hP (h := 26) (hlt _ (by decide)) rfl (by decide) rfl (c_X6_scrambles l P hA hn q1 x1 x2 hq2) ok_X6_scrambles ml_X6_161 ⟨Nat.le_of_ble_eq_true rfl, Nat.le_of_ble_eq_true rfl⟩ rfl hl.1 rfl (Nat.le_of_ble_eq_true rfl) dX6_scramble_8 ⟨Nat.le_of_ble_eq_true rfl, Nat.le_of_ble_eq_true rfl⟩) (fun H locs ho3 hP => ?_)
  obtain ⟨q4, hq4, h⟩ := ob h
  refine vu_i hP (vu_V S hF hP (h := 26) (hlt _ (by decide)) rfl (by decide) rfl (c_X6_kept l P hA hn q2.2 q2.1 hq4) ok_X6_kept ml_X6_91 ⟨Nat.le_of_ble_eq_true rfl, Nat.le_of_ble_eq_true rfl⟩ rfl hl.1 rfl (Nat.le_of_ble_eq_true rfl) dX6_scramble_11 ⟨Nat.le_of_ble_eq_true rfl, Nat.le_of_ble_eq_true rfl⟩) (fun H locs ho5 hP => ?_)
  obtain rfl := Option.some.inj h
  exact ve_i (v := q4.1) S hF hP hr hk rfl dX6_scramble_14
set_option maxRecDepth 100000 in
set_option maxHeartbeats 4000000 in
theorem c_X6_leads (l : Launch) (P : Pl) (hA : Adr P) (hn : 36 ≤ P.2.2.2.1) (w : Wo) (x1 : Int32) (x2 : Int32) {r : Int32 × Wo} (h : F_X6_leads w x1 x2 = some r) : CtI l P yX6_leads cX6_leads 8 (some .boolean) 2 [.ref (P.2.1 26), .int x1, .int x2] w r.1 r.2 := by
  have hlt : ∀ h, h < 36 → h < P.2.2.2.1 := fun h q => Nat.lt_of_lt_of_le q hn
  refine vs_met hA (by decide +kernel) (Nat.le_of_ble_eq_true rfl) (fun p e s m args below meth c ls S hF hP hl hr hk => ?_)
  have hx := S.1
  have hb := S.2.1
  replace hl : lv_has ls 8 [(0, .ref (P.2.1 26)), (1, .int x1), (2, .int x2)] := hl
  have hB102 : ∀ (w : Wo) (x5 : Int32), B_X6_leads_102 w x5 = some r → ∀ (H : Heap) (locs : List Loc) (ls : Array Slot), St P s w H locs → lv_has ls 8 [(0, .ref (P.2.1 26)), (5, .int x5)] → W p l e (rmU 2 0 0) s m args below meth c H locs 0 0 (QI P (some .boolean) r.1 r.2 below args s) (F0 m 102 ls []) := by
    intro w x5 h H locs ls hP hl
    unfold B_X6_leads_102 at h
    refine lv_iload hx hb dX6_leads_102 (lv_at hl 1 rfl) ?_
    refine lv_if_eq (tgt := 122) hx hb dX6_leads_104 (by decide) (fun c11 => ?_) (fun c11 => ?_)
    · rw [if_pos c11] at h
      refine lv_iconst (v := 0) hx hb dX6_leads_122 (by decide) ?_
      obtain rfl := Option.some.inj h
      exact ve_i (v := 0) S hF hP hr hk rfl dX6_leads_123
    · rw [if_neg c11] at h
      refine lv_aload_n hx hb dX6_leads_107 rfl (lv_at hl 0 rfl) ?_
      obtain ⟨q4, hq4, h⟩ := ob h
      refine vu_i hP (vu_V S hF hP (h := 26) (hlt _ (by decide)) rfl (by decide) rfl (c_X6_homeTried l P hA hn w hq4) ok_X6_homeTried ml_X6_124 ⟨Nat.le_of_ble_eq_true rfl, Nat.le_of_ble_eq_true rfl⟩ rfl hl.1 rfl (Nat.le_of_ble_eq_true rfl) dX6_leads_108 ⟨Nat.le_of_ble_eq_true rfl, Nat.le_of_ble_eq_true rfl⟩) (fun H locs ho5 hP => ?_)
      refine lv_aload_n hx hb dX6_leads_111 rfl (lv_at hl 0 rfl) ?_
      obtain ⟨q6, hq6, h⟩ := ob h
      refine vu_i hP (vu_V S hF hP (h := 26) (hlt _ (by decide)) rfl (by decide) rfl (c_X6_places l P hA hn w hq6) ok_X6_places ml_X6_66 ⟨Nat.le_of_ble_eq_true rfl, Nat.le_of_ble_eq_true rfl⟩ rfl hl.1 rfl (Nat.le_of_ble_eq_true rfl) dX6_leads_112 ⟨Nat.le_of_ble_eq_true rfl, Nat.le_of_ble_eq_true rfl⟩) (fun H locs ho7 hP => ?_)
      refine lv_icmp_ne (tgt := 122) hx hb dX6_leads_115 (by decide) (fun c12 => ?_) (fun c12 => ?_)
      · rw [if_neg c12] at h
        refine lv_iconst (v := 0) hx hb dX6_leads_122 (by decide) ?_
        obtain rfl := Option.some.inj h
        exact ve_i (v := 0) S hF hP hr hk rfl dX6_leads_123
      · rw [if_pos c12] at h
        refine lv_iconst (v := 1) hx hb dX6_leads_118 (by decide) ?_
        refine lv_goto (tgt := 123) hx hb dX6_leads_119 (by decide) ?_
        obtain rfl := Option.some.inj h
        exact ve_i (v := 1) S hF hP hr hk rfl dX6_leads_123
  have hL57 : ∀ (x1 : Int32) (x2 : Int32) (x3 : Int32) (n : Nat) (w : Wo) (x4 : Int32) (x5 : Int32) (x6 : Int32), jl4 (B_X6_leads_57 x1 x2 x3) n w x4 x5 x6 = some r → ∀ (H : Heap) (locs : List Loc) (ls : Array Slot), St P s w H locs → lv_has ls 8 [(0, .ref (P.2.1 26)), (1, .int x1), (2, .int x2), (3, .int x3), (4, .int x4), (5, .int x5), (6, .int x6)] → W p l e (rmU 2 0 0) s m args below meth c H locs 0 0 (QI P (some .boolean) r.1 r.2 below args s) (F0 m 57 ls []) := by
    intro x1 x2 x3
    intro n
    induction n with
    | zero =>
      intro w x4 x5 x6 h
      cases h
    | succ n ih57 =>
      intro w x4 x5 x6 h H locs ls hP hl
      replace h : B_X6_leads_57 x1 x2 x3 (jl4 (B_X6_leads_57 x1 x2 x3) n) w x4 x5 x6 = some r := h
      revert h ih57
      generalize jl4 (B_X6_leads_57 x1 x2 x3) n = k57
      intro ih57 h
      unfold B_X6_leads_57 at h
      refine lv_iload hx hb dX6_leads_57 (lv_at hl 6 rfl) ?_
      refine lv_iload_n hx hb dX6_leads_59 rfl (lv_at hl 2 rfl) ?_
      refine lv_icmp_ge (tgt := 102) hx hb dX6_leads_60 (by decide) (fun c13 => ?_) (fun c13 => ?_)
      · rw [if_pos c13] at h
        exact hB102 _ _ h _ _ _ hP (lv_sub hl [0, 5] rfl)
      · rw [if_neg c13] at h
        refine lv_iload hx hb dX6_leads_63 (lv_at hl 5 rfl) ?_
        refine lv_if_eq (tgt := 102) hx hb dX6_leads_65 (by decide) (fun c14 => ?_) (fun c14 => ?_)
        · rw [if_pos c14] at h
          exact hB102 _ _ h _ _ _ hP (lv_sub hl [0, 5] rfl)
        · rw [if_neg c14] at h
          refine lv_iload_n hx hb dX6_leads_68 rfl (lv_at hl 1 rfl) ?_
          refine lv_iload hx hb dX6_leads_69 (lv_at hl 4 rfl) ?_
          obtain ⟨c15, h⟩ := chk h
          refine lv_idiv hx hb dX6_leads_71 c15 ?_
          refine lv_iload_n hx hb dX6_leads_72 rfl (lv_at hl 3 rfl) ?_
          obtain ⟨c16, h⟩ := chk h
          refine lv_irem hx hb dX6_leads_73 c16 ?_
          refine lv_istore (lv' := [(7, .int (jrem (x1 / x4) x3)), (0, .ref (P.2.1 26)), (1, .int x1), (2, .int x2), (3, .int x3), (4, .int x4), (5, .int x5), (6, .int x6)]) hx hb dX6_leads_74 hl (by decide) rfl (fun ls hl => ?_)
          refine lv_aload_n hx hb dX6_leads_76 rfl (lv_at hl 1 rfl) ?_
          refine lv_iload hx hb dX6_leads_77 (lv_at hl 0 rfl) ?_
          obtain ⟨q8, hq8, h⟩ := ob h
          refine vu_i hP (vu_V S hF hP (h := 26) (hlt _ (by decide)) rfl (by decide) rfl (c_X6_isOpen l P hA hn w (jrem (x1 / x4) x3) hq8) ok_X6_isOpen ml_X6_143 ⟨Nat.le_of_ble_eq_true rfl, Nat.le_of_ble_eq_true rfl⟩ rfl hl.1 rfl (Nat.le_of_ble_eq_true rfl) dX6_leads_79 ⟨Nat.le_of_ble_eq_true rfl, Nat.le_of_ble_eq_true rfl⟩) (fun H locs ho9 hP => ?_)
          refine lv_istore (lv' := [(5, .int q8), (7, .int (jrem (x1 / x4) x3)), (0, .ref (P.2.1 26)), (1, .int x1), (2, .int x2), (3, .int x3), (4, .int x4), (6, .int x6)]) hx hb dX6_leads_82 hl (by decide) rfl (fun ls hl => ?_)
          refine lv_aload_n hx hb dX6_leads_84 rfl (lv_at hl 2 rfl) ?_
          refine lv_iload hx hb dX6_leads_85 (lv_at hl 1 rfl) ?_
          obtain ⟨q10, hq10, h⟩ := ob h
          refine vu_v hP (vu_V S hF hP (h := 26) (hlt _ (by decide)) rfl (by decide) rfl (c_X6_turnsTried l P hA hn w (jrem (x1 / x4) x3) hq10) ok_X6_turnsTried ml_X6_127 ⟨Nat.le_of_ble_eq_true rfl, Nat.le_of_ble_eq_true rfl⟩ rfl hl.1 rfl (Nat.le_of_ble_eq_true rfl) dX6_leads_87 ⟨Nat.le_of_ble_eq_true rfl, Nat.le_of_ble_eq_true rfl⟩) (fun H locs hP => ?_)
          refine lv_iload hx hb dX6_leads_90 (lv_at hl 6 rfl) ?_
          refine lv_iload_n hx hb dX6_leads_92 rfl (lv_at hl 5 rfl) ?_
          obtain ⟨c17, h⟩ := chk h
          refine lv_idiv hx hb dX6_leads_93 c17 ?_
          refine lv_istore (lv' := [(4, .int (x4 / x3)), (5, .int q8), (7, .int (jrem (x1 / x4) x3)), (0, .ref (P.2.1 26)), (1, .int x1), (2, .int x2), (3, .int x3), (6, .int x6)]) hx hb dX6_leads_94 hl (by decide) rfl (fun ls hl => ?_)
          refine lv_iinc (v := (x6 + 1)) (lv' := [(6, .int (x6 + 1)), (4, .int (x4 / x3)), (5, .int q8), (7, .int (jrem (x1 / x4) x3)), (0, .ref (P.2.1 26)), (1, .int x1), (2, .int x2), (3, .int x3)]) hx hb dX6_leads_96 hl (k := 7) rfl rfl (by decide) rfl (fun ls hl => ?_)
          refine lv_goto (tgt := 57) hx hb dX6_leads_99 (by decide) ?_
          exact ih57 _ _ _ _ h _ _ _ hP (lv_sub hl [4, 5, 6, 7, 1, 2, 0] rfl)
  have hB47 : ∀ (w : Wo) (x1 : Int32) (x2 : Int32) (x3 : Int32) (x4 : Int32), B_X6_leads_47 w x1 x2 x3 x4 = some r → ∀ (H : Heap) (locs : List Loc) (ls : Array Slot), St P s w H locs → lv_has ls 8 [(0, .ref (P.2.1 26)), (1, .int x1), (2, .int x2), (3, .int x3), (4, .int x4)] → W p l e (rmU 2 0 0) s m args below meth c H locs 0 0 (QI P (some .boolean) r.1 r.2 below args s) (F0 m 47 ls []) := by
    intro w x1 x2 x3 x4 h H locs ls hP hl
    unfold B_X6_leads_47 at h
    refine lv_aload_n hx hb dX6_leads_47 rfl (lv_at hl 0 rfl) ?_
    obtain ⟨q3, hq3, h⟩ := ob h
    refine vu_v hP (vu_V S hF hP (h := 26) (hlt _ (by decide)) rfl (by decide) rfl (c_X6_tries l P hA hn w hq3) ok_X6_tries ml_X6_121 ⟨Nat.le_of_ble_eq_true rfl, Nat.le_of_ble_eq_true rfl⟩ rfl hl.1 rfl (Nat.le_of_ble_eq_true rfl) dX6_leads_48 ⟨Nat.le_of_ble_eq_true rfl, Nat.le_of_ble_eq_true rfl⟩) (fun H locs hP => ?_)
    refine lv_iconst (v := 1) hx hb dX6_leads_51 (by decide) ?_
    refine lv_istore (lv' := [(5, .int 1), (0, .ref (P.2.1 26)), (1, .int x1), (2, .int x2), (3, .int x3), (4, .int x4)]) hx hb dX6_leads_52 hl (by decide) rfl (fun ls hl => ?_)
    refine lv_iconst (v := 0) hx hb dX6_leads_54 (by decide) ?_
    refine lv_istore (lv' := [(6, .int 0), (5, .int 1), (0, .ref (P.2.1 26)), (1, .int x1), (2, .int x2), (3, .int x3), (4, .int x4)]) hx hb dX6_leads_55 hl (by decide) rfl (fun ls hl => ?_)
    exact hL57 _ _ _ fu _ _ _ _ h _ _ _ hP (lv_sub hl [2, 3, 4, 5, 6, 1, 0] rfl)
  have hB44 : ∀ (w : Wo) (x1 : Int32) (x2 : Int32) (x3 : Int32) (x4 : Int32) (t0 : Int32), B_X6_leads_44 w x1 x2 x3 x4 t0 = some r → ∀ (H : Heap) (locs : List Loc) (ls : Array Slot), St P s w H locs → lv_has ls 8 [(0, .ref (P.2.1 26)), (1, .int x1), (2, .int x2), (3, .int x3), (4, .int x4)] → W p l e (rmU 2 0 0) s m args below meth c H locs 0 0 (QI P (some .boolean) r.1 r.2 below args s) (F0 m 44 ls [.int t0, .ref (P.2.1 26)]) := by
    intro w x1 x2 x3 x4 t0 h H locs ls hP hl
    unfold B_X6_leads_44 at h
    refine vt_putI S hF hP (k := 17) (ci := 6) 26 (hlt _ (by decide)) rfl (by decide) rfl (by decide) rfl tyX6 tyX6_ok nmX6 rfl rfl rfl rfl (by decide) (inC_X6 _) (List.mem_cons_of_mem _ fl_X6_164) dX6_leads_44 (fun H locs hP => ?_)
    exact hB47 _ _ _ _ _ h _ _ _ hP (lv_sub hl [0, 1, 2, 3, 4] rfl)
  have hB31 : ∀ (w : Wo) (x1 : Int32) (x2 : Int32) (x3 : Int32) (x4 : Int32), B_X6_leads_31 w x1 x2 x3 x4 = some r → ∀ (H : Heap) (locs : List Loc) (ls : Array Slot), St P s w H locs → lv_has ls 8 [(0, .ref (P.2.1 26)), (1, .int x1), (2, .int x2), (3, .int x3), (4, .int x4)] → W p l e (rmU 2 0 0) s m args below meth c H locs 0 0 (QI P (some .boolean) r.1 r.2 below args s) (F0 m 31 ls []) := by
    intro w x1 x2 x3 x4 h H locs ls hP hl
    unfold B_X6_leads_31 at h
    refine lv_aload_n hx hb dX6_leads_31 rfl (lv_at hl 0 rfl) ?_
    refine lv_iload_n hx hb dX6_leads_32 rfl (lv_at hl 2 rfl) ?_
    refine lv_if_ne (tgt := 40) hx hb dX6_leads_33 (by decide) (fun c18 => ?_) (fun c18 => ?_)
    · rw [if_neg c18] at h
      refine lv_iload_n hx hb dX6_leads_40 rfl (lv_at hl 1 rfl) ?_
      refine lv_iload hx hb dX6_leads_41 (lv_at hl 4 rfl) ?_
      obtain ⟨c19, h⟩ := chk h
      refine lv_idiv hx hb dX6_leads_43 c19 ?_
      exact hB44 _ _ _ _ _ _ h _ _ _ hP (lv_sub hl [0, 1, 2, 3, 4] rfl)
    · rw [if_pos c18] at h
      refine lv_iconst (v := (-1)) hx hb dX6_leads_36 (by decide) ?_
      refine lv_goto (tgt := 44) hx hb dX6_leads_37 (by decide) ?_
      exact hB44 _ _ _ _ _ _ h _ _ _ hP (lv_sub hl [0, 1, 2, 3, 4] rfl)
  have hL13 : ∀ (w : Wo) (x1 : Int32) (x2 : Int32) (x3 : Int32) (n : Nat) (x4 : Int32) (x5 : Int32), jl2 (B_X6_leads_13 w x1 x2 x3) n x4 x5 = some r → ∀ (H : Heap) (locs : List Loc) (ls : Array Slot), St P s w H locs → lv_has ls 8 [(0, .ref (P.2.1 26)), (1, .int x1), (2, .int x2), (3, .int x3), (4, .int x4), (5, .int x5)] → W p l e (rmU 2 0 0) s m args below meth c H locs 0 0 (QI P (some .boolean) r.1 r.2 below args s) (F0 m 13 ls []) := by
    intro w x1 x2 x3
    intro n
    induction n with
    | zero =>
      intro x4 x5 h
      cases h
    | succ n ih13 =>
      intro x4 x5 h H locs ls hP hl
      replace h : B_X6_leads_13 w x1 x2 x3 (jl2 (B_X6_leads_13 w x1 x2 x3) n) x4 x5 = some r := h
      revert h ih13
      generalize jl2 (B_X6_leads_13 w x1 x2 x3) n = k13
      intro ih13 h
      unfold B_X6_leads_13 at h
      refine lv_iload hx hb dX6_leads_13 (lv_at hl 5 rfl) ?_
      refine lv_iload_n hx hb dX6_leads_15 rfl (lv_at hl 2 rfl) ?_
      refine lv_icmp_ge (tgt := 31) hx hb dX6_leads_16 (by decide) (fun c20 => ?_) (fun c20 => ?_)
      · rw [if_pos c20] at h
        exact hB31 _ _ _ _ _ h _ _ _ hP (lv_sub hl [0, 1, 2, 3, 4] rfl)
      · rw [if_neg c20] at h
        refine lv_iload hx hb dX6_leads_19 (lv_at hl 4 rfl) ?_
        refine lv_iload_n hx hb dX6_leads_21 rfl (lv_at hl 3 rfl) ?_
        refine lv_imul hx hb dX6_leads_22 ?_
        refine lv_istore (lv' := [(4, .int (x4 * x3)), (0, .ref (P.2.1 26)), (1, .int x1), (2, .int x2), (3, .int x3), (5, .int x5)]) hx hb dX6_leads_23 hl (by decide) rfl (fun ls hl => ?_)
        refine lv_iinc (v := (x5 + 1)) (lv' := [(5, .int (x5 + 1)), (4, .int (x4 * x3)), (0, .ref (P.2.1 26)), (1, .int x1), (2, .int x2), (3, .int x3)]) hx hb dX6_leads_25 hl (k := 5) rfl rfl (by decide) rfl (fun ls hl => ?_)
        refine lv_goto (tgt := 13) hx hb dX6_leads_28 (by decide) ?_
        exact ih13 _ _ h _ _ _ hP (lv_sub hl [2, 3, 4, 5, 1, 0] rfl)
  unfold F_X6_leads at h
  refine lv_iconst (v := 2) hx hb dX6_leads_0 (by decide) ?_
  refine lv_aload_n hx hb dX6_leads_1 rfl (lv_at hl 0 rfl) ?_
  obtain ⟨q1, hq1, h⟩ := ob h
  refine vu_i hP (vu_V S hF hP (h := 26) (hlt _ (by decide)) rfl (by decide) rfl (c_X6_lines l P hA hn w hq1) ok_X6_lines ml_X6_74 ⟨Nat.le_of_ble_eq_true rfl, Nat.le_of_ble_eq_true rfl⟩ rfl hl.1 rfl (Nat.le_of_ble_eq_true rfl) dX6_leads_2 ⟨Nat.le_of_ble_eq_true rfl, Nat.le_of_ble_eq_true rfl⟩) (fun H locs ho2 hP => ?_)
  refine lv_imul hx hb dX6_leads_5 ?_
  refine lv_istore_n (lv' := [(3, .int ((2 : Int32) * q1)), (0, .ref (P.2.1 26)), (1, .int x1), (2, .int x2)]) hx hb dX6_leads_6 rfl hl (by decide) rfl (fun ls hl => ?_)
  refine lv_iconst (v := 1) hx hb dX6_leads_7 (by decide) ?_
  refine lv_istore (lv' := [(4, .int 1), (3, .int ((2 : Int32) * q1)), (0, .ref (P.2.1 26)), (1, .int x1), (2, .int x2)]) hx hb dX6_leads_8 hl (by decide) rfl (fun ls hl => ?_)
  refine lv_iconst (v := 1) hx hb dX6_leads_10 (by decide) ?_
  refine lv_istore (lv' := [(5, .int 1), (4, .int 1), (3, .int ((2 : Int32) * q1)), (0, .ref (P.2.1 26)), (1, .int x1), (2, .int x2)]) hx hb dX6_leads_11 hl (by decide) rfl (fun ls hl => ?_)
  exact hL13 _ _ _ _ fu _ _ h _ _ _ hP (lv_sub hl [3, 4, 5, 2, 1, 0] rfl)
set_option maxRecDepth 100000 in
set_option maxHeartbeats 4000000 in
theorem c_X6_shortest (l : Launch) (P : Pl) (hA : Adr P) (hn : 36 ≤ P.2.2.2.1) (w : Wo) {r : Int32 × Wo} (h : F_X6_shortest w = some r) : CtI l P yX6_shortest cX6_shortest 4 (some .int) 3 [.ref (P.2.1 26)] w r.1 r.2 := by
  have hlt : ∀ h, h < 36 → h < P.2.2.2.1 := fun h q => Nat.lt_of_lt_of_le q hn
  refine vs_met hA (by decide +kernel) (Nat.le_of_ble_eq_true rfl) (fun p e s m args below meth c ls S hF hP hl hr hk => ?_)
  have hx := S.1
  have hb := S.2.1
  replace hl : lv_has ls 4 [(0, .ref (P.2.1 26))] := hl
  have hL4 : ∀ (n : Nat) (w : Wo) (x1 : Int32) (x2 : Int32), jl3 (B_X6_shortest_4) n w x1 x2 = some r → ∀ (H : Heap) (locs : List Loc) (ls : Array Slot), St P s w H locs → lv_has ls 4 [(0, .ref (P.2.1 26)), (1, .int x1), (2, .int x2)] → W p l e (rmU 3 0 0) s m args below meth c H locs 0 0 (QI P (some .int) r.1 r.2 below args s) (F0 m 4 ls []) := by
    intro n
    induction n with
    | zero =>
      intro w x1 x2 h
      cases h
    | succ n ih4 =>
      intro w x1 x2 h H locs ls hP hl
      replace h : B_X6_shortest_4 (jl3 (B_X6_shortest_4) n) w x1 x2 = some r := h
      revert h ih4
      generalize jl3 (B_X6_shortest_4) n = k4
      intro ih4 h
      have hB33 : ∀ (w : Wo) (x1 : Int32) (x2 : Int32), B_X6_shortest_33 k4 w x1 x2 = some r → ∀ (H : Heap) (locs : List Loc) (ls : Array Slot), St P s w H locs → lv_has ls 4 [(0, .ref (P.2.1 26)), (1, .int x1), (2, .int x2)] → W p l e (rmU 3 0 0) s m args below meth c H locs 0 0 (QI P (some .int) r.1 r.2 below args s) (F0 m 33 ls []) := by
        intro w x1 x2 h H locs ls hP hl
        unfold B_X6_shortest_33 at h
        refine lv_iload_n hx hb dX6_shortest_33 rfl (lv_at hl 1 rfl) ?_
        refine lv_iconst (v := 2) hx hb dX6_shortest_34 (by decide) ?_
        refine lv_aload_n hx hb dX6_shortest_35 rfl (lv_at hl 0 rfl) ?_
        obtain ⟨q1, hq1, h⟩ := ob h
        refine vu_i hP (vu_V S hF hP (h := 26) (hlt _ (by decide)) rfl (by decide) rfl (c_X6_lines l P hA hn w hq1) ok_X6_lines ml_X6_74 ⟨Nat.le_of_ble_eq_true rfl, Nat.le_of_ble_eq_true rfl⟩ rfl hl.1 rfl (Nat.le_of_ble_eq_true rfl) dX6_shortest_36 ⟨Nat.le_of_ble_eq_true rfl, Nat.le_of_ble_eq_true rfl⟩) (fun H locs ho2 hP => ?_)
        refine lv_imul hx hb dX6_shortest_39 ?_
        refine lv_imul hx hb dX6_shortest_40 ?_
        refine lv_istore_n (lv' := [(1, .int (x1 * ((2 : Int32) * q1))), (0, .ref (P.2.1 26)), (2, .int x2)]) hx hb dX6_shortest_41 rfl hl (by decide) rfl (fun ls hl => ?_)
        refine lv_iinc (v := (x2 + 1)) (lv' := [(2, .int (x2 + 1)), (1, .int (x1 * ((2 : Int32) * q1))), (0, .ref (P.2.1 26))]) hx hb dX6_shortest_42 hl (k := 2) rfl rfl (by decide) rfl (fun ls hl => ?_)
        refine lv_goto (tgt := 4) hx hb dX6_shortest_45 (by decide) ?_
        exact ih4 _ _ _ h _ _ _ hP (lv_sub hl [2, 1, 0] rfl)
      have hL11 : ∀ (x1 : Int32) (x2 : Int32) (n : Nat) (w : Wo) (x3 : Int32), jl2 (B_X6_shortest_11 k4 x1 x2) n w x3 = some r → ∀ (H : Heap) (locs : List Loc) (ls : Array Slot), St P s w H locs → lv_has ls 4 [(0, .ref (P.2.1 26)), (1, .int x1), (2, .int x2), (3, .int x3)] → W p l e (rmU 3 0 0) s m args below meth c H locs 0 0 (QI P (some .int) r.1 r.2 below args s) (F0 m 11 ls []) := by
        intro x1 x2
        intro n
        induction n with
        | zero =>
          intro w x3 h
          cases h
        | succ n ih11 =>
          intro w x3 h H locs ls hP hl
          replace h : B_X6_shortest_11 k4 x1 x2 (jl2 (B_X6_shortest_11 k4 x1 x2) n) w x3 = some r := h
          revert h ih11
          generalize jl2 (B_X6_shortest_11 k4 x1 x2) n = k11
          intro ih11 h
          unfold B_X6_shortest_11 at h
          refine lv_iload_n hx hb dX6_shortest_11 rfl (lv_at hl 3 rfl) ?_
          refine lv_iload_n hx hb dX6_shortest_12 rfl (lv_at hl 1 rfl) ?_
          refine lv_icmp_ge (tgt := 33) hx hb dX6_shortest_13 (by decide) (fun c5 => ?_) (fun c5 => ?_)
          · rw [if_pos c5] at h
            exact hB33 _ _ _ h _ _ _ hP (lv_sub hl [0, 1, 2] rfl)
          · rw [if_neg c5] at h
            refine lv_aload_n hx hb dX6_shortest_16 rfl (lv_at hl 0 rfl) ?_
            refine lv_iload_n hx hb dX6_shortest_17 rfl (lv_at hl 3 rfl) ?_
            refine lv_iload_n hx hb dX6_shortest_18 rfl (lv_at hl 2 rfl) ?_
            obtain ⟨q3, hq3, h⟩ := ob h
            refine vu_i hP (vu_V S hF hP (h := 26) (hlt _ (by decide)) rfl (by decide) rfl (c_X6_leads l P hA hn w x3 x2 hq3) ok_X6_leads ml_X6_167 ⟨Nat.le_of_ble_eq_true rfl, Nat.le_of_ble_eq_true rfl⟩ rfl hl.1 rfl (Nat.le_of_ble_eq_true rfl) dX6_shortest_19 ⟨Nat.le_of_ble_eq_true rfl, Nat.le_of_ble_eq_true rfl⟩) (fun H locs ho4 hP => ?_)
            refine lv_if_eq (tgt := 27) hx hb dX6_shortest_22 (by decide) (fun c6 => ?_) (fun c6 => ?_)
            · rw [if_pos c6] at h
              refine lv_iinc (v := (x3 + 1)) (lv' := [(3, .int (x3 + 1)), (0, .ref (P.2.1 26)), (1, .int x1), (2, .int x2)]) hx hb dX6_shortest_27 hl (k := 3) rfl rfl (by decide) rfl (fun ls hl => ?_)
              refine lv_goto (tgt := 11) hx hb dX6_shortest_30 (by decide) ?_
              exact ih11 _ _ h _ _ _ hP (lv_sub hl [1, 2, 3, 0] rfl)
            · rw [if_neg c6] at h
              refine lv_iload_n hx hb dX6_shortest_25 rfl (lv_at hl 2 rfl) ?_
              obtain rfl := Option.some.inj h
              exact ve_i (v := x2) S hF hP hr hk rfl dX6_shortest_26
      unfold B_X6_shortest_4 at h
      refine lv_iload_n hx hb dX6_shortest_4 rfl (lv_at hl 2 rfl) ?_
      refine lv_iconst (v := 4) hx hb dX6_shortest_5 (by decide) ?_
      refine lv_icmp_ge (tgt := 48) hx hb dX6_shortest_6 (by decide) (fun c7 => ?_) (fun c7 => ?_)
      · rw [if_pos c7] at h
        refine lv_iconst (v := (-1)) hx hb dX6_shortest_48 (by decide) ?_
        obtain rfl := Option.some.inj h
        exact ve_i (v := (-1)) S hF hP hr hk rfl dX6_shortest_49
      · rw [if_neg c7] at h
        refine lv_iconst (v := 0) hx hb dX6_shortest_9 (by decide) ?_
        refine lv_istore_n (lv' := [(3, .int 0), (0, .ref (P.2.1 26)), (1, .int x1), (2, .int x2)]) hx hb dX6_shortest_10 rfl hl (by decide) rfl (fun ls hl => ?_)
        exact hL11 _ _ fu _ _ h _ _ _ hP (lv_sub hl [1, 2, 3, 0] rfl)
  unfold F_X6_shortest at h
  refine lv_iconst (v := 1) hx hb dX6_shortest_0 (by decide) ?_
  refine lv_istore_n (lv' := [(1, .int 1), (0, .ref (P.2.1 26))]) hx hb dX6_shortest_1 rfl hl (by decide) rfl (fun ls hl => ?_)
  refine lv_iconst (v := 0) hx hb dX6_shortest_2 (by decide) ?_
  refine lv_istore_n (lv' := [(2, .int 0), (1, .int 1), (0, .ref (P.2.1 26))]) hx hb dX6_shortest_3 rfl hl (by decide) rfl (fun ls hl => ?_)
  exact hL4 fu _ _ _ h _ _ _ hP (lv_sub hl [2, 1, 0] rfl)
set_option maxRecDepth 100000 in
set_option maxHeartbeats 4000000 in
theorem c_X6_away (l : Launch) (P : Pl) (hA : Adr P) (hn : 36 ≤ P.2.2.2.1) (w : Wo) (x1 : Int32) {r : Int32 × Wo} (h : F_X6_away w x1 = some r) : CtI l P yX6_away cX6_away 3 (some .int) 4 [.ref (P.2.1 26), .int x1] w r.1 r.2 := by
  have hlt : ∀ h, h < 36 → h < P.2.2.2.1 := fun h q => Nat.lt_of_lt_of_le q hn
  refine vs_met hA (by decide +kernel) (Nat.le_of_ble_eq_true rfl) (fun p e s m args below meth c ls S hF hP hl hr hk => ?_)
  have hx := S.1
  have hb := S.2.1
  replace hl : lv_has ls 3 [(0, .ref (P.2.1 26)), (1, .int x1)] := hl
  unfold F_X6_away at h
  refine lv_aload_n hx hb dX6_away_0 rfl (lv_at hl 0 rfl) ?_
  obtain ⟨q1, hq1, h⟩ := ob h
  refine vu_i hP (vu_V S hF hP (h := 26) (hlt _ (by decide)) rfl (by decide) rfl (c_X6_shortest l P hA hn w hq1) ok_X6_shortest ml_X6_171 ⟨Nat.le_of_ble_eq_true rfl, Nat.le_of_ble_eq_true rfl⟩ rfl hl.1 rfl (Nat.le_of_ble_eq_true rfl) dX6_away_1 ⟨Nat.le_of_ble_eq_true rfl, Nat.le_of_ble_eq_true rfl⟩) (fun H locs ho2 hP => ?_)
  refine lv_istore_n (lv' := [(2, .int q1.1), (0, .ref (P.2.1 26)), (1, .int x1)]) hx hb dX6_away_4 rfl hl (by decide) rfl (fun ls hl => ?_)
  refine lv_iload_n hx hb dX6_away_5 rfl (lv_at hl 0 rfl) ?_
  refine lv_iconst (v := (-1)) hx hb dX6_away_6 (by decide) ?_
  refine lv_icmp_ne (tgt := 18) hx hb dX6_away_7 (by decide) (fun c7 => ?_) (fun c7 => ?_)
  · rw [if_neg c7] at h
    refine lv_aload_n hx hb dX6_away_18 rfl (lv_at hl 1 rfl) ?_
    refine lv_iload_n hx hb dX6_away_19 rfl (lv_at hl 0 rfl) ?_
    obtain ⟨q3, hq3, h⟩ := ob h
    refine vu_i hP (vu_V S hF hP (h := 26) (hlt _ (by decide)) rfl (by decide) rfl (c_X6_done l P hA hn q1.2 q1.1 hq3) ok_X6_done ml_X6_81 ⟨Nat.le_of_ble_eq_true rfl, Nat.le_of_ble_eq_true rfl⟩ rfl hl.1 rfl (Nat.le_of_ble_eq_true rfl) dX6_away_20 ⟨Nat.le_of_ble_eq_true rfl, Nat.le_of_ble_eq_true rfl⟩) (fun H locs ho4 hP => ?_)
    obtain rfl := Option.some.inj h
    exact ve_i (v := q3.1) S hF hP hr hk rfl dX6_away_23
  · rw [if_pos c7] at h
    refine lv_aload_n hx hb dX6_away_10 rfl (lv_at hl 1 rfl) ?_
    refine lv_iconst (v := 1) hx hb dX6_away_11 (by decide) ?_
    obtain ⟨q5, hq5, h⟩ := ob h
    refine vu_i hP (vu_V S hF hP (h := 26) (hlt _ (by decide)) rfl (by decide) rfl (c_X6_fails l P hA hn q1.2 1 hq5) ok_X6_fails ml_X6_77 ⟨Nat.le_of_ble_eq_true rfl, Nat.le_of_ble_eq_true rfl⟩ rfl hl.1 rfl (Nat.le_of_ble_eq_true rfl) dX6_away_12 ⟨Nat.le_of_ble_eq_true rfl, Nat.le_of_ble_eq_true rfl⟩) (fun H locs ho6 hP => ?_)
    refine lv_goto (tgt := 23) hx hb dX6_away_15 (by decide) ?_
    obtain rfl := Option.some.inj h
    exact ve_i (v := q5.1) S hF hP hr hk rfl dX6_away_23
set_option maxRecDepth 100000 in
set_option maxHeartbeats 4000000 in
theorem c_X6_firstTurn (l : Launch) (P : Pl) (hA : Adr P) (hn : 36 ≤ P.2.2.2.1) (w : Wo) {r : Int32 × Wo} (h : F_X6_firstTurn w = some r) : CtI l P yX6_firstTurn cX6_firstTurn 2 (some .int) 4 [.ref (P.2.1 26)] w r.1 r.2 := by
  have hlt : ∀ h, h < 36 → h < P.2.2.2.1 := fun h q => Nat.lt_of_lt_of_le q hn
  refine vs_met hA (by decide +kernel) (Nat.le_of_ble_eq_true rfl) (fun p e s m args below meth c ls S hF hP hl hr hk => ?_)
  have hx := S.1
  have hb := S.2.1
  replace hl : lv_has ls 2 [(0, .ref (P.2.1 26))] := hl
  unfold F_X6_firstTurn at h
  refine lv_aload_n hx hb dX6_firstTurn_0 rfl (lv_at hl 0 rfl) ?_
  obtain ⟨q1, hq1, h⟩ := ob h
  refine vu_i hP (vu_V S hF hP (h := 26) (hlt _ (by decide)) rfl (by decide) rfl (c_X6_shortest l P hA hn w hq1) ok_X6_shortest ml_X6_171 ⟨Nat.le_of_ble_eq_true rfl, Nat.le_of_ble_eq_true rfl⟩ rfl hl.1 rfl (Nat.le_of_ble_eq_true rfl) dX6_firstTurn_1 ⟨Nat.le_of_ble_eq_true rfl, Nat.le_of_ble_eq_true rfl⟩) (fun H locs ho2 hP => ?_)
  refine lv_istore_n (lv' := [(1, .int q1.1), (0, .ref (P.2.1 26))]) hx hb dX6_firstTurn_4 rfl hl (by decide) rfl (fun ls hl => ?_)
  refine lv_iload_n hx hb dX6_firstTurn_5 rfl (lv_at hl 0 rfl) ?_
  refine lv_iconst (v := 1) hx hb dX6_firstTurn_6 (by decide) ?_
  refine lv_icmp_ge (tgt := 18) hx hb dX6_firstTurn_7 (by decide) (fun c7 => ?_) (fun c7 => ?_)
  · rw [if_pos c7] at h
    refine lv_aload_n hx hb dX6_firstTurn_18 rfl (lv_at hl 1 rfl) ?_
    refine lv_aload_n hx hb dX6_firstTurn_19 rfl (lv_at hl 1 rfl) ?_
    refine vt_getI S hF hP (k := 17) (ci := 6) 26 (hlt _ (by decide)) rfl (by decide) rfl (by decide) rfl (inC_X6 _) (List.mem_cons_of_mem _ fl_X6_164) dX6_firstTurn_20 ?_
    obtain ⟨q3, hq3, h⟩ := ob h
    refine vu_i hP (vu_V S hF hP (h := 26) (hlt _ (by decide)) rfl (by decide) rfl (c_X6_done l P hA hn q1.2 (gI q1.2 26 17) hq3) ok_X6_done ml_X6_81 ⟨Nat.le_of_ble_eq_true rfl, Nat.le_of_ble_eq_true rfl⟩ rfl hl.1 rfl (Nat.le_of_ble_eq_true rfl) dX6_firstTurn_23 ⟨Nat.le_of_ble_eq_true rfl, Nat.le_of_ble_eq_true rfl⟩) (fun H locs ho4 hP => ?_)
    obtain rfl := Option.some.inj h
    exact ve_i (v := q3.1) S hF hP hr hk rfl dX6_firstTurn_26
  · rw [if_neg c7] at h
    refine lv_aload_n hx hb dX6_firstTurn_10 rfl (lv_at hl 1 rfl) ?_
    refine lv_iconst (v := 1) hx hb dX6_firstTurn_11 (by decide) ?_
    obtain ⟨q5, hq5, h⟩ := ob h
    refine vu_i hP (vu_V S hF hP (h := 26) (hlt _ (by decide)) rfl (by decide) rfl (c_X6_fails l P hA hn q1.2 1 hq5) ok_X6_fails ml_X6_77 ⟨Nat.le_of_ble_eq_true rfl, Nat.le_of_ble_eq_true rfl⟩ rfl hl.1 rfl (Nat.le_of_ble_eq_true rfl) dX6_firstTurn_12 ⟨Nat.le_of_ble_eq_true rfl, Nat.le_of_ble_eq_true rfl⟩) (fun H locs ho6 hP => ?_)
    refine lv_goto (tgt := 26) hx hb dX6_firstTurn_15 (by decide) ?_
    obtain rfl := Option.some.inj h
    exact ve_i (v := q5.1) S hF hP hr hk rfl dX6_firstTurn_26
set_option maxRecDepth 100000 in
set_option maxHeartbeats 4000000 in
theorem c_X6_timesOf (l : Launch) (P : Pl) (hA : Adr P) (hn : 36 ≤ P.2.2.2.1) (w : Wo) (x1 : Int32) (x2 : Int32) {r : Int32} (h : F_X6_timesOf w x1 x2 = some r) : CtI l P yX6_timesOf cX6_timesOf 5 (some .int) 1 [.ref (P.2.1 26), .int x1, .int x2] w r w := by
  have hlt : ∀ h, h < 36 → h < P.2.2.2.1 := fun h q => Nat.lt_of_lt_of_le q hn
  refine vs_met hA (by decide +kernel) (Nat.le_of_ble_eq_true rfl) (fun p e s m args below meth c ls S hF hP hl hr hk => ?_)
  have hx := S.1
  have hb := S.2.1
  replace hl : lv_has ls 5 [(0, .ref (P.2.1 26)), (1, .int x1), (2, .int x2)] := hl
  have hL5 : ∀ (x1 : Int32) (x2 : Int32) (n : Nat) (x3 : Int32) (x4 : Int32), jl2 (B_X6_timesOf_5 w x1 x2) n x3 x4 = some r → ∀ (H : Heap) (locs : List Loc) (ls : Array Slot), St P s w H locs → lv_has ls 5 [(0, .ref (P.2.1 26)), (1, .int x1), (2, .int x2), (3, .int x3), (4, .int x4)] → W p l e (rmU 1 0 0) s m args below meth c H locs 0 0 (QI P (some .int) r w below args s) (F0 m 5 ls []) := by
    intro x1 x2
    intro n
    induction n with
    | zero =>
      intro x3 x4 h
      cases h
    | succ n ih5 =>
      intro x3 x4 h H locs ls hP hl
      replace h : B_X6_timesOf_5 w x1 x2 (jl2 (B_X6_timesOf_5 w x1 x2) n) x3 x4 = some r := h
      revert h ih5
      generalize jl2 (B_X6_timesOf_5 w x1 x2) n = k5
      intro ih5 h
      have hB33 : ∀ (x4 : Int32) (t0 : Int32) (t1 : Int32), B_X6_timesOf_33 k5 w x1 x2 x4 t0 t1 = some r → ∀ (H : Heap) (locs : List Loc) (ls : Array Slot), St P s w H locs → lv_has ls 5 [(0, .ref (P.2.1 26)), (1, .int x1), (2, .int x2), (4, .int x4)] → W p l e (rmU 1 0 0) s m args below meth c H locs 0 0 (QI P (some .int) r w below args s) (F0 m 33 ls [.int t0, .int t1]) := by
        intro x4 t0 t1 h H locs ls hP hl
        unfold B_X6_timesOf_33 at h
        refine lv_iadd hx hb dX6_timesOf_33 ?_
        refine lv_istore_n (lv' := [(3, .int (t1 + t0)), (0, .ref (P.2.1 26)), (1, .int x1), (2, .int x2), (4, .int x4)]) hx hb dX6_timesOf_34 rfl hl (by decide) rfl (fun ls hl => ?_)
        refine lv_iinc (v := (x4 + 1)) (lv' := [(4, .int (x4 + 1)), (3, .int (t1 + t0)), (0, .ref (P.2.1 26)), (1, .int x1), (2, .int x2)]) hx hb dX6_timesOf_35 hl (k := 4) rfl rfl (by decide) rfl (fun ls hl => ?_)
        refine lv_goto (tgt := 5) hx hb dX6_timesOf_38 (by decide) ?_
        exact ih5 _ _ h _ _ _ hP (lv_sub hl [2, 3, 4, 1, 0] rfl)
      unfold B_X6_timesOf_5 at h
      refine lv_iload hx hb dX6_timesOf_5 (lv_at hl 4 rfl) ?_
      refine lv_aload_n hx hb dX6_timesOf_7 rfl (lv_at hl 0 rfl) ?_
      obtain ⟨q1, hq1, h⟩ := ob h
      refine vu_i hP (vu_V S hF hP (h := 26) (hlt _ (by decide)) rfl (by decide) rfl (c_X6_places l P hA hn w hq1) ok_X6_places ml_X6_66 ⟨Nat.le_of_ble_eq_true rfl, Nat.le_of_ble_eq_true rfl⟩ rfl hl.1 rfl (Nat.le_of_ble_eq_true rfl) dX6_timesOf_8 ⟨Nat.le_of_ble_eq_true rfl, Nat.le_of_ble_eq_true rfl⟩) (fun H locs ho2 hP => ?_)
      refine lv_icmp_ge (tgt := 41) hx hb dX6_timesOf_11 (by decide) (fun c3 => ?_) (fun c3 => ?_)
      · rw [if_pos c3] at h
        refine lv_iload_n hx hb dX6_timesOf_41 rfl (lv_at hl 3 rfl) ?_
        obtain rfl := Option.some.inj h
        exact ve_i (v := x3) S hF hP hr hk rfl dX6_timesOf_42
      · rw [if_neg c3] at h
        refine lv_iload_n hx hb dX6_timesOf_14 rfl (lv_at hl 3 rfl) ?_
        refine lv_aload_n hx hb dX6_timesOf_15 rfl (lv_at hl 0 rfl) ?_
        refine vt_getR (r := 27) S hF hP (k := 0) (ci := 6) 26 (hlt _ (by decide)) rfl (by decide) rfl (by decide) rfl rfl (inC_X6 _) (List.mem_cons_of_mem _ fl_X6_7) dX6_timesOf_16 ?_
        refine lv_iload_n hx hb dX6_timesOf_19 rfl (lv_at hl 1 rfl) ?_
        refine lv_iload hx hb dX6_timesOf_20 (lv_at hl 4 rfl) ?_
        refine lv_iadd hx hb dX6_timesOf_22 ?_
        obtain ⟨c4, h⟩ := chk h
        refine vt_iald S hF hP (hlt _ (by decide)) rfl c4 dX6_timesOf_23 ?_
        refine lv_iload_n hx hb dX6_timesOf_24 rfl (lv_at hl 2 rfl) ?_
        refine lv_icmp_ne (tgt := 32) hx hb dX6_timesOf_25 (by decide) (fun c5 => ?_) (fun c5 => ?_)
        · rw [if_neg c5] at h
          refine lv_iconst (v := 0) hx hb dX6_timesOf_32 (by decide) ?_
          exact hB33 _ _ _ h _ _ _ hP (lv_sub hl [0, 1, 2, 4] rfl)
        · rw [if_pos c5] at h
          refine lv_iconst (v := 1) hx hb dX6_timesOf_28 (by decide) ?_
          refine lv_goto (tgt := 33) hx hb dX6_timesOf_29 (by decide) ?_
          exact hB33 _ _ _ h _ _ _ hP (lv_sub hl [0, 1, 2, 4] rfl)
  unfold F_X6_timesOf at h
  refine lv_iconst (v := 0) hx hb dX6_timesOf_0 (by decide) ?_
  refine lv_istore_n (lv' := [(3, .int 0), (0, .ref (P.2.1 26)), (1, .int x1), (2, .int x2)]) hx hb dX6_timesOf_1 rfl hl (by decide) rfl (fun ls hl => ?_)
  refine lv_iconst (v := 0) hx hb dX6_timesOf_2 (by decide) ?_
  refine lv_istore (lv' := [(4, .int 0), (3, .int 0), (0, .ref (P.2.1 26)), (1, .int x1), (2, .int x2)]) hx hb dX6_timesOf_3 hl (by decide) rfl (fun ls hl => ?_)
  exact hL5 _ _ fu _ _ h _ _ _ hP (lv_sub hl [2, 3, 4, 1, 0] rfl)
set_option maxRecDepth 100000 in
set_option maxHeartbeats 4000000 in
theorem c_X6_lacksLetters (l : Launch) (P : Pl) (hA : Adr P) (hn : 36 ≤ P.2.2.2.1) (w : Wo) {r : Int32} (h : F_X6_lacksLetters w = some r) : CtI l P yX6_lacksLetters cX6_lacksLetters 3 (some .boolean) 2 [.ref (P.2.1 26)] w r w := by
  have hlt : ∀ h, h < 36 → h < P.2.2.2.1 := fun h q => Nat.lt_of_lt_of_le q hn
  refine vs_met hA (by decide +kernel) (Nat.le_of_ble_eq_true rfl) (fun p e s m args below meth c ls S hF hP hl hr hk => ?_)
  have hx := S.1
  have hb := S.2.1
  replace hl : lv_has ls 3 [(0, .ref (P.2.1 26))] := hl
  have hL4 : ∀ (n : Nat) (x1 : Int32) (x2 : Int32), jl2 (B_X6_lacksLetters_4 w) n x1 x2 = some r → ∀ (H : Heap) (locs : List Loc) (ls : Array Slot), St P s w H locs → lv_has ls 3 [(0, .ref (P.2.1 26)), (1, .int x1), (2, .int x2)] → W p l e (rmU 2 0 0) s m args below meth c H locs 0 0 (QI P (some .boolean) r w below args s) (F0 m 4 ls []) := by
    intro n
    induction n with
    | zero =>
      intro x1 x2 h
      cases h
    | succ n ih4 =>
      intro x1 x2 h H locs ls hP hl
      replace h : B_X6_lacksLetters_4 w (jl2 (B_X6_lacksLetters_4 w) n) x1 x2 = some r := h
      revert h ih4
      generalize jl2 (B_X6_lacksLetters_4 w) n = k4
      intro ih4 h
      have hB36 : ∀ (x2 : Int32) (t0 : Int32), B_X6_lacksLetters_36 k4 w x2 t0 = some r → ∀ (H : Heap) (locs : List Loc) (ls : Array Slot), St P s w H locs → lv_has ls 3 [(0, .ref (P.2.1 26)), (2, .int x2)] → W p l e (rmU 2 0 0) s m args below meth c H locs 0 0 (QI P (some .boolean) r w below args s) (F0 m 36 ls [.int t0]) := by
        intro x2 t0 h H locs ls hP hl
        unfold B_X6_lacksLetters_36 at h
        refine lv_istore_n (lv' := [(1, .int t0), (0, .ref (P.2.1 26)), (2, .int x2)]) hx hb dX6_lacksLetters_36 rfl hl (by decide) rfl (fun ls hl => ?_)
        refine lv_iinc (v := (x2 + 1)) (lv' := [(2, .int (x2 + 1)), (1, .int t0), (0, .ref (P.2.1 26))]) hx hb dX6_lacksLetters_37 hl (k := 2) rfl rfl (by decide) rfl (fun ls hl => ?_)
        refine lv_goto (tgt := 4) hx hb dX6_lacksLetters_40 (by decide) ?_
        exact ih4 _ _ h _ _ _ hP (lv_sub hl [2, 1, 0] rfl)
      have hB31 : ∀ (x2 : Int32), B_X6_lacksLetters_31 k4 w x2 = some r → ∀ (H : Heap) (locs : List Loc) (ls : Array Slot), St P s w H locs → lv_has ls 3 [(0, .ref (P.2.1 26)), (2, .int x2)] → W p l e (rmU 2 0 0) s m args below meth c H locs 0 0 (QI P (some .boolean) r w below args s) (F0 m 31 ls []) := by
        intro x2 h H locs ls hP hl
        unfold B_X6_lacksLetters_31 at h
        refine lv_iconst (v := 1) hx hb dX6_lacksLetters_31 (by decide) ?_
        refine lv_goto (tgt := 36) hx hb dX6_lacksLetters_32 (by decide) ?_
        exact hB36 _ _ h _ _ _ hP (lv_sub hl [0, 1] rfl)
      unfold B_X6_lacksLetters_4 at h
      refine lv_iload_n hx hb dX6_lacksLetters_4 rfl (lv_at hl 2 rfl) ?_
      refine lv_bipush (v := 12) hx hb dX6_lacksLetters_5 (by decide) ?_
      refine lv_icmp_ge (tgt := 43) hx hb dX6_lacksLetters_7 (by decide) (fun c5 => ?_) (fun c5 => ?_)
      · rw [if_pos c5] at h
        refine lv_iload_n hx hb dX6_lacksLetters_43 rfl (lv_at hl 1 rfl) ?_
        obtain ⟨c6, h⟩ := chk h
        obtain rfl := Option.some.inj h
        exact ve_i (v := x1) S hF hP hr hk (nar_z c6) dX6_lacksLetters_44
      · rw [if_neg c5] at h
        refine lv_iload_n hx hb dX6_lacksLetters_10 rfl (lv_at hl 1 rfl) ?_
        refine lv_if_ne (tgt := 31) hx hb dX6_lacksLetters_11 (by decide) (fun c7 => ?_) (fun c7 => ?_)
        · rw [if_neg c7] at h
          exact hB31 _ h _ _ _ hP (lv_sub hl [0, 2] rfl)
        · rw [if_pos c7] at h
          refine lv_aload_n hx hb dX6_lacksLetters_14 rfl (lv_at hl 0 rfl) ?_
          refine lv_bipush (v := 23) hx hb dX6_lacksLetters_15 (by decide) ?_
          refine lv_iload_n hx hb dX6_lacksLetters_17 rfl (lv_at hl 2 rfl) ?_
          obtain ⟨q1, hq1, h⟩ := ob h
          refine vu_i hP (vu_V S hF hP (h := 26) (hlt _ (by decide)) rfl (by decide) rfl (c_X6_timesOf l P hA hn w 23 x2 hq1) ok_X6_timesOf ml_X6_174 ⟨Nat.le_of_ble_eq_true rfl, Nat.le_of_ble_eq_true rfl⟩ rfl hl.1 rfl (Nat.le_of_ble_eq_true rfl) dX6_lacksLetters_18 ⟨Nat.le_of_ble_eq_true rfl, Nat.le_of_ble_eq_true rfl⟩) (fun H locs ho2 hP => ?_)
          refine lv_aload_n hx hb dX6_lacksLetters_21 rfl (lv_at hl 0 rfl) ?_
          refine lv_bipush (v := 14) hx hb dX6_lacksLetters_22 (by decide) ?_
          refine lv_iload_n hx hb dX6_lacksLetters_24 rfl (lv_at hl 2 rfl) ?_
          obtain ⟨q3, hq3, h⟩ := ob h
          refine vu_i hP (vu_V S hF hP (h := 26) (hlt _ (by decide)) rfl (by decide) rfl (c_X6_timesOf l P hA hn w 14 x2 hq3) ok_X6_timesOf ml_X6_174 ⟨Nat.le_of_ble_eq_true rfl, Nat.le_of_ble_eq_true rfl⟩ rfl hl.1 rfl (Nat.le_of_ble_eq_true rfl) dX6_lacksLetters_25 ⟨Nat.le_of_ble_eq_true rfl, Nat.le_of_ble_eq_true rfl⟩) (fun H locs ho4 hP => ?_)
          refine lv_icmp_le (tgt := 35) hx hb dX6_lacksLetters_28 (by decide) (fun c8 => ?_) (fun c8 => ?_)
          · rw [if_pos c8] at h
            refine lv_iconst (v := 0) hx hb dX6_lacksLetters_35 (by decide) ?_
            exact hB36 _ _ h _ _ _ hP (lv_sub hl [0, 2] rfl)
          · rw [if_neg c8] at h
            exact hB31 _ h _ _ _ hP (lv_sub hl [0, 2] rfl)
  unfold F_X6_lacksLetters at h
  refine lv_iconst (v := 0) hx hb dX6_lacksLetters_0 (by decide) ?_
  refine lv_istore_n (lv' := [(1, .int 0), (0, .ref (P.2.1 26))]) hx hb dX6_lacksLetters_1 rfl hl (by decide) rfl (fun ls hl => ?_)
  refine lv_iconst (v := 0) hx hb dX6_lacksLetters_2 (by decide) ?_
  refine lv_istore_n (lv' := [(2, .int 0), (1, .int 0), (0, .ref (P.2.1 26))]) hx hb dX6_lacksLetters_3 rfl hl (by decide) rfl (fun ls hl => ?_)
  exact hL4 fu _ _ h _ _ _ hP (lv_sub hl [2, 1, 0] rfl)
set_option maxRecDepth 100000 in
set_option maxHeartbeats 4000000 in
theorem c_X6_unlike (l : Launch) (P : Pl) (hA : Adr P) (hn : 36 ≤ P.2.2.2.1) (w : Wo) {r : Int32} (h : F_X6_unlike w = some r) : CtI l P yX6_unlike cX6_unlike 3 (some .int) 2 [.ref (P.2.1 26)] w r w := by
  have hlt : ∀ h, h < 36 → h < P.2.2.2.1 := fun h q => Nat.lt_of_lt_of_le q hn
  refine vs_met hA (by decide +kernel) (Nat.le_of_ble_eq_true rfl) (fun p e s m args below meth c ls S hF hP hl hr hk => ?_)
  have hx := S.1
  have hb := S.2.1
  replace hl : lv_has ls 3 [(0, .ref (P.2.1 26))] := hl
  have hL4 : ∀ (n : Nat) (x1 : Int32) (x2 : Int32), jl2 (B_X6_unlike_4 w) n x1 x2 = some r → ∀ (H : Heap) (locs : List Loc) (ls : Array Slot), St P s w H locs → lv_has ls 3 [(0, .ref (P.2.1 26)), (1, .int x1), (2, .int x2)] → W p l e (rmU 2 0 0) s m args below meth c H locs 0 0 (QI P (some .int) r w below args s) (F0 m 4 ls []) := by
    intro n
    induction n with
    | zero =>
      intro x1 x2 h
      cases h
    | succ n ih4 =>
      intro x1 x2 h H locs ls hP hl
      replace h : B_X6_unlike_4 w (jl2 (B_X6_unlike_4 w) n) x1 x2 = some r := h
      revert h ih4
      generalize jl2 (B_X6_unlike_4 w) n = k4
      intro ih4 h
      have hB26 : ∀ (x2 : Int32) (t0 : Int32) (t1 : Int32), B_X6_unlike_26 k4 w x2 t0 t1 = some r → ∀ (H : Heap) (locs : List Loc) (ls : Array Slot), St P s w H locs → lv_has ls 3 [(0, .ref (P.2.1 26)), (2, .int x2)] → W p l e (rmU 2 0 0) s m args below meth c H locs 0 0 (QI P (some .int) r w below args s) (F0 m 26 ls [.int t0, .int t1]) := by
        intro x2 t0 t1 h H locs ls hP hl
        unfold B_X6_unlike_26 at h
        refine lv_iadd hx hb dX6_unlike_26 ?_
        refine lv_istore_n (lv' := [(1, .int (t1 + t0)), (0, .ref (P.2.1 26)), (2, .int x2)]) hx hb dX6_unlike_27 rfl hl (by decide) rfl (fun ls hl => ?_)
        refine lv_iinc (v := (x2 + 1)) (lv' := [(2, .int (x2 + 1)), (1, .int (t1 + t0)), (0, .ref (P.2.1 26))]) hx hb dX6_unlike_28 hl (k := 2) rfl rfl (by decide) rfl (fun ls hl => ?_)
        refine lv_goto (tgt := 4) hx hb dX6_unlike_31 (by decide) ?_
        exact ih4 _ _ h _ _ _ hP (lv_sub hl [2, 1, 0] rfl)
      unfold B_X6_unlike_4 at h
      refine lv_iload_n hx hb dX6_unlike_4 rfl (lv_at hl 2 rfl) ?_
      refine lv_bipush (v := 12) hx hb dX6_unlike_5 (by decide) ?_
      refine lv_icmp_ge (tgt := 34) hx hb dX6_unlike_7 (by decide) (fun c3 => ?_) (fun c3 => ?_)
      · rw [if_pos c3] at h
        refine lv_iload_n hx hb dX6_unlike_34 rfl (lv_at hl 1 rfl) ?_
        obtain rfl := Option.some.inj h
        exact ve_i (v := x1) S hF hP hr hk rfl dX6_unlike_35
      · rw [if_neg c3] at h
        refine lv_iload_n hx hb dX6_unlike_10 rfl (lv_at hl 1 rfl) ?_
        refine lv_aload_n hx hb dX6_unlike_11 rfl (lv_at hl 0 rfl) ?_
        refine lv_bipush (v := 14) hx hb dX6_unlike_12 (by decide) ?_
        refine lv_iload_n hx hb dX6_unlike_14 rfl (lv_at hl 2 rfl) ?_
        obtain ⟨q1, hq1, h⟩ := ob h
        refine vu_i hP (vu_V S hF hP (h := 26) (hlt _ (by decide)) rfl (by decide) rfl (c_X6_timesOf l P hA hn w 14 x2 hq1) ok_X6_timesOf ml_X6_174 ⟨Nat.le_of_ble_eq_true rfl, Nat.le_of_ble_eq_true rfl⟩ rfl hl.1 rfl (Nat.le_of_ble_eq_true rfl) dX6_unlike_15 ⟨Nat.le_of_ble_eq_true rfl, Nat.le_of_ble_eq_true rfl⟩) (fun H locs ho2 hP => ?_)
        refine lv_if_le (tgt := 25) hx hb dX6_unlike_18 (by decide) (fun c4 => ?_) (fun c4 => ?_)
        · rw [if_pos c4] at h
          refine lv_iconst (v := 0) hx hb dX6_unlike_25 (by decide) ?_
          exact hB26 _ _ _ h _ _ _ hP (lv_sub hl [0, 2] rfl)
        · rw [if_neg c4] at h
          refine lv_iconst (v := 1) hx hb dX6_unlike_21 (by decide) ?_
          refine lv_goto (tgt := 26) hx hb dX6_unlike_22 (by decide) ?_
          exact hB26 _ _ _ h _ _ _ hP (lv_sub hl [0, 2] rfl)
  unfold F_X6_unlike at h
  refine lv_iconst (v := 0) hx hb dX6_unlike_0 (by decide) ?_
  refine lv_istore_n (lv' := [(1, .int 0), (0, .ref (P.2.1 26))]) hx hb dX6_unlike_1 rfl hl (by decide) rfl (fun ls hl => ?_)
  refine lv_iconst (v := 0) hx hb dX6_unlike_2 (by decide) ?_
  refine lv_istore_n (lv' := [(2, .int 0), (1, .int 0), (0, .ref (P.2.1 26))]) hx hb dX6_unlike_3 rfl hl (by decide) rfl (fun ls hl => ?_)
  exact hL4 fu _ _ h _ _ _ hP (lv_sub hl [2, 1, 0] rfl)
set_option maxRecDepth 100000 in
set_option maxHeartbeats 4000000 in
theorem c_X6_swapsAreOdd (l : Launch) (P : Pl) (hA : Adr P) (hn : 36 ≤ P.2.2.2.1) (w : Wo) {r : Int32 × Wo} (h : F_X6_swapsAreOdd w = some r) : CtI l P yX6_swapsAreOdd cX6_swapsAreOdd 4 (some .boolean) 2 [.ref (P.2.1 26)] w r.1 r.2 := by
  have hlt : ∀ h, h < 36 → h < P.2.2.2.1 := fun h q => Nat.lt_of_lt_of_le q hn
  refine vs_met hA (by decide +kernel) (Nat.le_of_ble_eq_true rfl) (fun p e s m args below meth c ls S hF hP hl hr hk => ?_)
  have hx := S.1
  have hb := S.2.1
  replace hl : lv_has ls 4 [(0, .ref (P.2.1 26))] := hl
  have hL121 : ∀ (w : Wo) (n : Nat) (x1 : Int32) (x2 : Int32), jl2 (B_X6_swapsAreOdd_121 w) n x1 x2 = some r → ∀ (H : Heap) (locs : List Loc) (ls : Array Slot), St P s w H locs → lv_has ls 4 [(0, .ref (P.2.1 26)), (1, .int x1), (2, .int x2)] → W p l e (rmU 2 0 0) s m args below meth c H locs 0 0 (QI P (some .boolean) r.1 r.2 below args s) (F0 m 121 ls []) := by
    intro w
    intro n
    induction n with
    | zero =>
      intro x1 x2 h
      cases h
    | succ n ih121 =>
      intro x1 x2 h H locs ls hP hl
      replace h : B_X6_swapsAreOdd_121 w (jl2 (B_X6_swapsAreOdd_121 w) n) x1 x2 = some r := h
      revert h ih121
      generalize jl2 (B_X6_swapsAreOdd_121 w) n = k121
      intro ih121 h
      have hB171 : ∀ (x1 : Int32) (x2 : Int32), B_X6_swapsAreOdd_171 k121 w x1 x2 = some r → ∀ (H : Heap) (locs : List Loc) (ls : Array Slot), St P s w H locs → lv_has ls 4 [(0, .ref (P.2.1 26)), (1, .int x1), (2, .int x2)] → W p l e (rmU 2 0 0) s m args below meth c H locs 0 0 (QI P (some .boolean) r.1 r.2 below args s) (F0 m 171 ls []) := by
        intro x1 x2 h H locs ls hP hl
        unfold B_X6_swapsAreOdd_171 at h
        refine lv_iinc (v := (x2 + 1)) (lv' := [(2, .int (x2 + 1)), (0, .ref (P.2.1 26)), (1, .int x1)]) hx hb dX6_swapsAreOdd_171 hl (k := 2) rfl rfl (by decide) rfl (fun ls hl => ?_)
        refine lv_goto (tgt := 121) hx hb dX6_swapsAreOdd_174 (by decide) ?_
        exact ih121 _ _ h _ _ _ hP (lv_sub hl [1, 2, 0] rfl)
      have hL131 : ∀ (x2 : Int32) (n : Nat) (x1 : Int32) (x3 : Int32), jl2 (B_X6_swapsAreOdd_131 k121 w x2) n x1 x3 = some r → ∀ (H : Heap) (locs : List Loc) (ls : Array Slot), St P s w H locs → lv_has ls 4 [(0, .ref (P.2.1 26)), (1, .int x1), (2, .int x2), (3, .int x3)] → W p l e (rmU 2 0 0) s m args below meth c H locs 0 0 (QI P (some .boolean) r.1 r.2 below args s) (F0 m 131 ls []) := by
        intro x2
        intro n
        induction n with
        | zero =>
          intro x1 x3 h
          cases h
        | succ n ih131 =>
          intro x1 x3 h H locs ls hP hl
          replace h : B_X6_swapsAreOdd_131 k121 w x2 (jl2 (B_X6_swapsAreOdd_131 k121 w x2) n) x1 x3 = some r := h
          revert h ih131
          generalize jl2 (B_X6_swapsAreOdd_131 k121 w x2) n = k131
          intro ih131 h
          have hB164 : ∀ (x3 : Int32) (t0 : Int32), B_X6_swapsAreOdd_164 k121 k131 w x2 x3 t0 = some r → ∀ (H : Heap) (locs : List Loc) (ls : Array Slot), St P s w H locs → lv_has ls 4 [(0, .ref (P.2.1 26)), (2, .int x2), (3, .int x3)] → W p l e (rmU 2 0 0) s m args below meth c H locs 0 0 (QI P (some .boolean) r.1 r.2 below args s) (F0 m 164 ls [.int t0]) := by
            intro x3 t0 h H locs ls hP hl
            unfold B_X6_swapsAreOdd_164 at h
            refine lv_istore_n (lv' := [(1, .int t0), (0, .ref (P.2.1 26)), (2, .int x2), (3, .int x3)]) hx hb dX6_swapsAreOdd_164 rfl hl (by decide) rfl (fun ls hl => ?_)
            refine lv_iinc (v := (x3 + 1)) (lv' := [(3, .int (x3 + 1)), (1, .int t0), (0, .ref (P.2.1 26)), (2, .int x2)]) hx hb dX6_swapsAreOdd_165 hl (k := 3) rfl rfl (by decide) rfl (fun ls hl => ?_)
            refine lv_goto (tgt := 131) hx hb dX6_swapsAreOdd_168 (by decide) ?_
            exact ih131 _ _ h _ _ _ hP (lv_sub hl [2, 1, 3, 0] rfl)
          unfold B_X6_swapsAreOdd_131 at h
          refine lv_iload_n hx hb dX6_swapsAreOdd_131 rfl (lv_at hl 3 rfl) ?_
          refine lv_iload_n hx hb dX6_swapsAreOdd_132 rfl (lv_at hl 2 rfl) ?_
          refine lv_icmp_ge (tgt := 171) hx hb dX6_swapsAreOdd_133 (by decide) (fun c11 => ?_) (fun c11 => ?_)
          · rw [if_pos c11] at h
            exact hB171 _ _ h _ _ _ hP (lv_sub hl [0, 1, 2] rfl)
          · rw [if_neg c11] at h
            refine lv_aload_n hx hb dX6_swapsAreOdd_136 rfl (lv_at hl 0 rfl) ?_
            refine vt_getR (r := 34) S hF hP (k := 16) (ci := 6) 26 (hlt _ (by decide)) rfl (by decide) rfl (by decide) rfl rfl (inC_X6 _) (List.mem_cons_of_mem _ fl_X6_36) dX6_swapsAreOdd_137 ?_
            refine lv_iload_n hx hb dX6_swapsAreOdd_140 rfl (lv_at hl 3 rfl) ?_
            obtain ⟨c12, h⟩ := chk h
            refine vt_iald S hF hP (hlt _ (by decide)) rfl c12 dX6_swapsAreOdd_141 ?_
            refine lv_aload_n hx hb dX6_swapsAreOdd_142 rfl (lv_at hl 0 rfl) ?_
            refine vt_getR (r := 34) S hF hP (k := 16) (ci := 6) 26 (hlt _ (by decide)) rfl (by decide) rfl (by decide) rfl rfl (inC_X6 _) (List.mem_cons_of_mem _ fl_X6_36) dX6_swapsAreOdd_143 ?_
            refine lv_iload_n hx hb dX6_swapsAreOdd_146 rfl (lv_at hl 2 rfl) ?_
            obtain ⟨c13, h⟩ := chk h
            refine vt_iald S hF hP (hlt _ (by decide)) rfl c13 dX6_swapsAreOdd_147 ?_
            refine lv_icmp_le (tgt := 163) hx hb dX6_swapsAreOdd_148 (by decide) (fun c14 => ?_) (fun c14 => ?_)
            · rw [if_pos c14] at h
              refine lv_iload_n hx hb dX6_swapsAreOdd_163 rfl (lv_at hl 1 rfl) ?_
              exact hB164 _ _ h _ _ _ hP (lv_sub hl [0, 2, 3] rfl)
            · rw [if_neg c14] at h
              refine lv_iload_n hx hb dX6_swapsAreOdd_151 rfl (lv_at hl 1 rfl) ?_
              refine lv_if_ne (tgt := 159) hx hb dX6_swapsAreOdd_152 (by decide) (fun c15 => ?_) (fun c15 => ?_)
              · rw [if_neg c15] at h
                refine lv_iconst (v := 0) hx hb dX6_swapsAreOdd_159 (by decide) ?_
                refine lv_goto (tgt := 164) hx hb dX6_swapsAreOdd_160 (by decide) ?_
                exact hB164 _ _ h _ _ _ hP (lv_sub hl [0, 2, 3] rfl)
              · rw [if_pos c15] at h
                refine lv_iconst (v := 1) hx hb dX6_swapsAreOdd_155 (by decide) ?_
                refine lv_goto (tgt := 164) hx hb dX6_swapsAreOdd_156 (by decide) ?_
                exact hB164 _ _ h _ _ _ hP (lv_sub hl [0, 2, 3] rfl)
      unfold B_X6_swapsAreOdd_121 at h
      refine lv_iload_n hx hb dX6_swapsAreOdd_121 rfl (lv_at hl 2 rfl) ?_
      refine lv_aload_n hx hb dX6_swapsAreOdd_122 rfl (lv_at hl 0 rfl) ?_
      obtain ⟨q3, hq3, h⟩ := ob h
      refine vu_i hP (vu_V S hF hP (h := 26) (hlt _ (by decide)) rfl (by decide) rfl (c_X6_places l P hA hn w hq3) ok_X6_places ml_X6_66 ⟨Nat.le_of_ble_eq_true rfl, Nat.le_of_ble_eq_true rfl⟩ rfl hl.1 rfl (Nat.le_of_ble_eq_true rfl) dX6_swapsAreOdd_123 ⟨Nat.le_of_ble_eq_true rfl, Nat.le_of_ble_eq_true rfl⟩) (fun H locs ho4 hP => ?_)
      refine lv_icmp_ge (tgt := 177) hx hb dX6_swapsAreOdd_126 (by decide) (fun c16 => ?_) (fun c16 => ?_)
      · rw [if_pos c16] at h
        refine lv_iload_n hx hb dX6_swapsAreOdd_177 rfl (lv_at hl 1 rfl) ?_
        obtain ⟨c17, h⟩ := chk h
        obtain rfl := Option.some.inj h
        exact ve_i (v := x1) S hF hP hr hk (nar_z c17) dX6_swapsAreOdd_178
      · rw [if_neg c16] at h
        refine lv_iconst (v := 0) hx hb dX6_swapsAreOdd_129 (by decide) ?_
        refine lv_istore_n (lv' := [(3, .int 0), (0, .ref (P.2.1 26)), (1, .int x1), (2, .int x2)]) hx hb dX6_swapsAreOdd_130 rfl hl (by decide) rfl (fun ls hl => ?_)
        exact hL131 _ fu _ _ h _ _ _ hP (lv_sub hl [1, 2, 3, 0] rfl)
  have hB117 : ∀ (w : Wo), B_X6_swapsAreOdd_117 w = some r → ∀ (H : Heap) (locs : List Loc) (ls : Array Slot), St P s w H locs → lv_has ls 4 [(0, .ref (P.2.1 26))] → W p l e (rmU 2 0 0) s m args below meth c H locs 0 0 (QI P (some .boolean) r.1 r.2 below args s) (F0 m 117 ls []) := by
    intro w h H locs ls hP hl
    unfold B_X6_swapsAreOdd_117 at h
    refine lv_iconst (v := 0) hx hb dX6_swapsAreOdd_117 (by decide) ?_
    refine lv_istore_n (lv' := [(1, .int 0), (0, .ref (P.2.1 26))]) hx hb dX6_swapsAreOdd_118 rfl hl (by decide) rfl (fun ls hl => ?_)
    refine lv_iconst (v := 0) hx hb dX6_swapsAreOdd_119 (by decide) ?_
    refine lv_istore_n (lv' := [(2, .int 0), (1, .int 0), (0, .ref (P.2.1 26))]) hx hb dX6_swapsAreOdd_120 rfl hl (by decide) rfl (fun ls hl => ?_)
    exact hL121 _ fu _ _ h _ _ _ hP (lv_sub hl [2, 1, 0] rfl)
  have hL2 : ∀ (n : Nat) (w : Wo) (x1 : Int32), jl2 (B_X6_swapsAreOdd_2) n w x1 = some r → ∀ (H : Heap) (locs : List Loc) (ls : Array Slot), St P s w H locs → lv_has ls 4 [(0, .ref (P.2.1 26)), (1, .int x1)] → W p l e (rmU 2 0 0) s m args below meth c H locs 0 0 (QI P (some .boolean) r.1 r.2 below args s) (F0 m 2 ls []) := by
    intro n
    induction n with
    | zero =>
      intro w x1 h
      cases h
    | succ n ih2 =>
      intro w x1 h H locs ls hP hl
      replace h : B_X6_swapsAreOdd_2 (jl2 (B_X6_swapsAreOdd_2) n) w x1 = some r := h
      revert h ih2
      generalize jl2 (B_X6_swapsAreOdd_2) n = k2
      intro ih2 h
      have hB111 : ∀ (w : Wo) (x1 : Int32), B_X6_swapsAreOdd_111 k2 w x1 = some r → ∀ (H : Heap) (locs : List Loc) (ls : Array Slot), St P s w H locs → lv_has ls 4 [(0, .ref (P.2.1 26)), (1, .int x1)] → W p l e (rmU 2 0 0) s m args below meth c H locs 0 0 (QI P (some .boolean) r.1 r.2 below args s) (F0 m 111 ls []) := by
        intro w x1 h H locs ls hP hl
        unfold B_X6_swapsAreOdd_111 at h
        refine lv_iinc (v := (x1 + 1)) (lv' := [(1, .int (x1 + 1)), (0, .ref (P.2.1 26))]) hx hb dX6_swapsAreOdd_111 hl (k := 1) rfl rfl (by decide) rfl (fun ls hl => ?_)
        refine lv_goto (tgt := 2) hx hb dX6_swapsAreOdd_114 (by decide) ?_
        exact ih2 _ _ h _ _ _ hP (lv_sub hl [1, 0] rfl)
      have hL68 : ∀ (x1 : Int32) (x2 : Int32) (n : Nat) (w : Wo) (x3 : Int32), jl2 (B_X6_swapsAreOdd_68 k2 x1 x2) n w x3 = some r → ∀ (H : Heap) (locs : List Loc) (ls : Array Slot), St P s w H locs → lv_has ls 4 [(0, .ref (P.2.1 26)), (1, .int x1), (2, .int x2), (3, .int x3)] → W p l e (rmU 2 0 0) s m args below meth c H locs 0 0 (QI P (some .boolean) r.1 r.2 below args s) (F0 m 68 ls []) := by
        intro x1 x2
        intro n
        induction n with
        | zero =>
          intro w x3 h
          cases h
        | succ n ih68 =>
          intro w x3 h H locs ls hP hl
          replace h : B_X6_swapsAreOdd_68 k2 x1 x2 (jl2 (B_X6_swapsAreOdd_68 k2 x1 x2) n) w x3 = some r := h
          revert h ih68
          generalize jl2 (B_X6_swapsAreOdd_68 k2 x1 x2) n = k68
          intro ih68 h
          have hB105 : ∀ (w : Wo) (x3 : Int32), B_X6_swapsAreOdd_105 k2 k68 w x1 x2 x3 = some r → ∀ (H : Heap) (locs : List Loc) (ls : Array Slot), St P s w H locs → lv_has ls 4 [(0, .ref (P.2.1 26)), (1, .int x1), (2, .int x2), (3, .int x3)] → W p l e (rmU 2 0 0) s m args below meth c H locs 0 0 (QI P (some .boolean) r.1 r.2 below args s) (F0 m 105 ls []) := by
            intro w x3 h H locs ls hP hl
            unfold B_X6_swapsAreOdd_105 at h
            refine lv_iinc (v := (x3 + 1)) (lv' := [(3, .int (x3 + 1)), (0, .ref (P.2.1 26)), (1, .int x1), (2, .int x2)]) hx hb dX6_swapsAreOdd_105 hl (k := 3) rfl rfl (by decide) rfl (fun ls hl => ?_)
            refine lv_goto (tgt := 68) hx hb dX6_swapsAreOdd_108 (by decide) ?_
            exact ih68 _ _ h _ _ _ hP (lv_sub hl [1, 2, 3, 0] rfl)
          have hB104 : ∀ (w : Wo) (x3 : Int32) (t0 : Int32) (t1 : Int32), B_X6_swapsAreOdd_104 k2 k68 w x1 x2 x3 t0 t1 = some r → ∀ (H : Heap) (locs : List Loc) (ls : Array Slot), St P s w H locs → lv_has ls 4 [(0, .ref (P.2.1 26)), (1, .int x1), (2, .int x2), (3, .int x3)] → W p l e (rmU 2 0 0) s m args below meth c H locs 0 0 (QI P (some .boolean) r.1 r.2 below args s) (F0 m 104 ls [.int t0, .int t1, .ref (P.2.1 34)]) := by
            intro w x3 t0 t1 h H locs ls hP hl
            unfold B_X6_swapsAreOdd_104 at h
            obtain ⟨c18, h⟩ := chk h
            refine vt_iast S hF hP (hlt _ (by decide)) rfl c18 dX6_swapsAreOdd_104 (fun H locs hP => ?_)
            exact hB105 _ _ h _ _ _ hP (lv_sub hl [0, 1, 2, 3] rfl)
          unfold B_X6_swapsAreOdd_68 at h
          refine lv_iload_n hx hb dX6_swapsAreOdd_68 rfl (lv_at hl 3 rfl) ?_
          refine lv_aload_n hx hb dX6_swapsAreOdd_69 rfl (lv_at hl 0 rfl) ?_
          obtain ⟨q5, hq5, h⟩ := ob h
          refine vu_i hP (vu_V S hF hP (h := 26) (hlt _ (by decide)) rfl (by decide) rfl (c_X6_places l P hA hn w hq5) ok_X6_places ml_X6_66 ⟨Nat.le_of_ble_eq_true rfl, Nat.le_of_ble_eq_true rfl⟩ rfl hl.1 rfl (Nat.le_of_ble_eq_true rfl) dX6_swapsAreOdd_70 ⟨Nat.le_of_ble_eq_true rfl, Nat.le_of_ble_eq_true rfl⟩) (fun H locs ho6 hP => ?_)
          refine lv_icmp_ge (tgt := 111) hx hb dX6_swapsAreOdd_73 (by decide) (fun c19 => ?_) (fun c19 => ?_)
          · rw [if_pos c19] at h
            exact hB111 _ _ h _ _ _ hP (lv_sub hl [0, 1] rfl)
          · rw [if_neg c19] at h
            refine lv_aload_n hx hb dX6_swapsAreOdd_76 rfl (lv_at hl 0 rfl) ?_
            refine vt_getR (r := 34) S hF hP (k := 16) (ci := 6) 26 (hlt _ (by decide)) rfl (by decide) rfl (by decide) rfl rfl (inC_X6 _) (List.mem_cons_of_mem _ fl_X6_36) dX6_swapsAreOdd_77 ?_
            refine lv_iload_n hx hb dX6_swapsAreOdd_80 rfl (lv_at hl 1 rfl) ?_
            refine lv_aload_n hx hb dX6_swapsAreOdd_81 rfl (lv_at hl 0 rfl) ?_
            refine vt_getR (r := 27) S hF hP (k := 0) (ci := 6) 26 (hlt _ (by decide)) rfl (by decide) rfl (by decide) rfl rfl (inC_X6 _) (List.mem_cons_of_mem _ fl_X6_7) dX6_swapsAreOdd_82 ?_
            refine lv_bipush (v := 14) hx hb dX6_swapsAreOdd_85 (by decide) ?_
            refine lv_iload_n hx hb dX6_swapsAreOdd_87 rfl (lv_at hl 3 rfl) ?_
            refine lv_iadd hx hb dX6_swapsAreOdd_88 ?_
            obtain ⟨c20, h⟩ := chk h
            refine vt_iald S hF hP (hlt _ (by decide)) rfl c20 dX6_swapsAreOdd_89 ?_
            refine lv_iload_n hx hb dX6_swapsAreOdd_90 rfl (lv_at hl 2 rfl) ?_
            refine lv_icmp_ne (tgt := 98) hx hb dX6_swapsAreOdd_91 (by decide) (fun c21 => ?_) (fun c21 => ?_)
            · rw [if_neg c21] at h
              refine lv_aload_n hx hb dX6_swapsAreOdd_98 rfl (lv_at hl 0 rfl) ?_
              refine vt_getR (r := 34) S hF hP (k := 16) (ci := 6) 26 (hlt _ (by decide)) rfl (by decide) rfl (by decide) rfl rfl (inC_X6 _) (List.mem_cons_of_mem _ fl_X6_36) dX6_swapsAreOdd_99 ?_
              refine lv_iload_n hx hb dX6_swapsAreOdd_102 rfl (lv_at hl 1 rfl) ?_
              obtain ⟨c22, h⟩ := chk h
              refine vt_iald S hF hP (hlt _ (by decide)) rfl c22 dX6_swapsAreOdd_103 ?_
              exact hB104 _ _ _ _ h _ _ _ hP (lv_sub hl [0, 1, 2, 3] rfl)
            · rw [if_pos c21] at h
              refine lv_iload_n hx hb dX6_swapsAreOdd_94 rfl (lv_at hl 3 rfl) ?_
              refine lv_goto (tgt := 104) hx hb dX6_swapsAreOdd_95 (by decide) ?_
              exact hB104 _ _ _ _ h _ _ _ hP (lv_sub hl [0, 1, 2, 3] rfl)
      have hB66 : ∀ (w : Wo) (x1 : Int32) (x2 : Int32), B_X6_swapsAreOdd_66 k2 w x1 x2 = some r → ∀ (H : Heap) (locs : List Loc) (ls : Array Slot), St P s w H locs → lv_has ls 4 [(0, .ref (P.2.1 26)), (1, .int x1), (2, .int x2)] → W p l e (rmU 2 0 0) s m args below meth c H locs 0 0 (QI P (some .boolean) r.1 r.2 below args s) (F0 m 66 ls []) := by
        intro w x1 x2 h H locs ls hP hl
        unfold B_X6_swapsAreOdd_66 at h
        refine lv_iconst (v := 0) hx hb dX6_swapsAreOdd_66 (by decide) ?_
        refine lv_istore_n (lv' := [(3, .int 0), (0, .ref (P.2.1 26)), (1, .int x1), (2, .int x2)]) hx hb dX6_swapsAreOdd_67 rfl hl (by decide) rfl (fun ls hl => ?_)
        exact hL68 _ _ fu _ _ h _ _ _ hP (lv_sub hl [1, 2, 3, 0] rfl)
      have hL22 : ∀ (w : Wo) (x1 : Int32) (n : Nat) (x2 : Int32) (x3 : Int32), jl2 (B_X6_swapsAreOdd_22 k2 w x1) n x2 x3 = some r → ∀ (H : Heap) (locs : List Loc) (ls : Array Slot), St P s w H locs → lv_has ls 4 [(0, .ref (P.2.1 26)), (1, .int x1), (2, .int x2), (3, .int x3)] → W p l e (rmU 2 0 0) s m args below meth c H locs 0 0 (QI P (some .boolean) r.1 r.2 below args s) (F0 m 22 ls []) := by
        intro w x1
        intro n
        induction n with
        | zero =>
          intro x2 x3 h
          cases h
        | succ n ih22 =>
          intro x2 x3 h H locs ls hP hl
          replace h : B_X6_swapsAreOdd_22 k2 w x1 (jl2 (B_X6_swapsAreOdd_22 k2 w x1) n) x2 x3 = some r := h
          revert h ih22
          generalize jl2 (B_X6_swapsAreOdd_22 k2 w x1) n = k22
          intro ih22 h
          have hB59 : ∀ (x3 : Int32) (t0 : Int32), B_X6_swapsAreOdd_59 k2 k22 w x1 x3 t0 = some r → ∀ (H : Heap) (locs : List Loc) (ls : Array Slot), St P s w H locs → lv_has ls 4 [(0, .ref (P.2.1 26)), (1, .int x1), (3, .int x3)] → W p l e (rmU 2 0 0) s m args below meth c H locs 0 0 (QI P (some .boolean) r.1 r.2 below args s) (F0 m 59 ls [.int t0]) := by
            intro x3 t0 h H locs ls hP hl
            unfold B_X6_swapsAreOdd_59 at h
            refine lv_istore_n (lv' := [(2, .int t0), (0, .ref (P.2.1 26)), (1, .int x1), (3, .int x3)]) hx hb dX6_swapsAreOdd_59 rfl hl (by decide) rfl (fun ls hl => ?_)
            refine lv_iinc (v := (x3 + 1)) (lv' := [(3, .int (x3 + 1)), (2, .int t0), (0, .ref (P.2.1 26)), (1, .int x1)]) hx hb dX6_swapsAreOdd_60 hl (k := 3) rfl rfl (by decide) rfl (fun ls hl => ?_)
            refine lv_goto (tgt := 22) hx hb dX6_swapsAreOdd_63 (by decide) ?_
            exact ih22 _ _ h _ _ _ hP (lv_sub hl [2, 3, 1, 0] rfl)
          have hB58 : ∀ (x3 : Int32), B_X6_swapsAreOdd_58 k2 k22 w x1 x3 = some r → ∀ (H : Heap) (locs : List Loc) (ls : Array Slot), St P s w H locs → lv_has ls 4 [(0, .ref (P.2.1 26)), (1, .int x1), (3, .int x3)] → W p l e (rmU 2 0 0) s m args below meth c H locs 0 0 (QI P (some .boolean) r.1 r.2 below args s) (F0 m 58 ls []) := by
            intro x3 h H locs ls hP hl
            unfold B_X6_swapsAreOdd_58 at h
            refine lv_iconst (v := (-1)) hx hb dX6_swapsAreOdd_58 (by decide) ?_
            exact hB59 _ _ h _ _ _ hP (lv_sub hl [0, 1, 2] rfl)
          unfold B_X6_swapsAreOdd_22 at h
          refine lv_iload_n hx hb dX6_swapsAreOdd_22 rfl (lv_at hl 3 rfl) ?_
          refine lv_bipush (v := 12) hx hb dX6_swapsAreOdd_23 (by decide) ?_
          refine lv_icmp_ge (tgt := 66) hx hb dX6_swapsAreOdd_25 (by decide) (fun c23 => ?_) (fun c23 => ?_)
          · rw [if_pos c23] at h
            exact hB66 _ _ _ h _ _ _ hP (lv_sub hl [0, 1, 2] rfl)
          · rw [if_neg c23] at h
            refine lv_iload_n hx hb dX6_swapsAreOdd_28 rfl (lv_at hl 2 rfl) ?_
            refine lv_iconst (v := (-1)) hx hb dX6_swapsAreOdd_29 (by decide) ?_
            refine lv_icmp_ne (tgt := 66) hx hb dX6_swapsAreOdd_30 (by decide) (fun c24 => ?_) (fun c24 => ?_)
            · rw [if_neg c24] at h
              exact hB66 _ _ _ h _ _ _ hP (lv_sub hl [0, 1, 2] rfl)
            · rw [if_pos c24] at h
              refine lv_aload_n hx hb dX6_swapsAreOdd_33 rfl (lv_at hl 0 rfl) ?_
              refine lv_bipush (v := 14) hx hb dX6_swapsAreOdd_34 (by decide) ?_
              refine lv_iload_n hx hb dX6_swapsAreOdd_36 rfl (lv_at hl 3 rfl) ?_
              obtain ⟨q7, hq7, h⟩ := ob h
              refine vu_i hP (vu_V S hF hP (h := 26) (hlt _ (by decide)) rfl (by decide) rfl (c_X6_timesOf l P hA hn w 14 x3 hq7) ok_X6_timesOf ml_X6_174 ⟨Nat.le_of_ble_eq_true rfl, Nat.le_of_ble_eq_true rfl⟩ rfl hl.1 rfl (Nat.le_of_ble_eq_true rfl) dX6_swapsAreOdd_37 ⟨Nat.le_of_ble_eq_true rfl, Nat.le_of_ble_eq_true rfl⟩) (fun H locs ho8 hP => ?_)
              refine lv_iconst (v := 1) hx hb dX6_swapsAreOdd_40 (by decide) ?_
              refine lv_icmp_ne (tgt := 58) hx hb dX6_swapsAreOdd_41 (by decide) (fun c25 => ?_) (fun c25 => ?_)
              · rw [if_neg c25] at h
                exact hB58 _ h _ _ _ hP (lv_sub hl [0, 1, 3] rfl)
              · rw [if_pos c25] at h
                refine lv_aload_n hx hb dX6_swapsAreOdd_44 rfl (lv_at hl 0 rfl) ?_
                refine lv_bipush (v := 23) hx hb dX6_swapsAreOdd_45 (by decide) ?_
                refine lv_iload_n hx hb dX6_swapsAreOdd_47 rfl (lv_at hl 3 rfl) ?_
                obtain ⟨q9, hq9, h⟩ := ob h
                refine vu_i hP (vu_V S hF hP (h := 26) (hlt _ (by decide)) rfl (by decide) rfl (c_X6_timesOf l P hA hn w 23 x3 hq9) ok_X6_timesOf ml_X6_174 ⟨Nat.le_of_ble_eq_true rfl, Nat.le_of_ble_eq_true rfl⟩ rfl hl.1 rfl (Nat.le_of_ble_eq_true rfl) dX6_swapsAreOdd_48 ⟨Nat.le_of_ble_eq_true rfl, Nat.le_of_ble_eq_true rfl⟩) (fun H locs ho10 hP => ?_)
                refine lv_if_ne (tgt := 58) hx hb dX6_swapsAreOdd_51 (by decide) (fun c26 => ?_) (fun c26 => ?_)
                · rw [if_neg c26] at h
                  exact hB58 _ h _ _ _ hP (lv_sub hl [0, 1, 3] rfl)
                · rw [if_pos c26] at h
                  refine lv_iload_n hx hb dX6_swapsAreOdd_54 rfl (lv_at hl 3 rfl) ?_
                  refine lv_goto (tgt := 59) hx hb dX6_swapsAreOdd_55 (by decide) ?_
                  exact hB59 _ _ h _ _ _ hP (lv_sub hl [0, 1, 3] rfl)
      have hB20 : ∀ (w : Wo) (x1 : Int32) (x2 : Int32), B_X6_swapsAreOdd_20 k2 w x1 x2 = some r → ∀ (H : Heap) (locs : List Loc) (ls : Array Slot), St P s w H locs → lv_has ls 4 [(0, .ref (P.2.1 26)), (1, .int x1), (2, .int x2)] → W p l e (rmU 2 0 0) s m args below meth c H locs 0 0 (QI P (some .boolean) r.1 r.2 below args s) (F0 m 20 ls []) := by
        intro w x1 x2 h H locs ls hP hl
        unfold B_X6_swapsAreOdd_20 at h
        refine lv_iconst (v := 0) hx hb dX6_swapsAreOdd_20 (by decide) ?_
        refine lv_istore_n (lv' := [(3, .int 0), (0, .ref (P.2.1 26)), (1, .int x1), (2, .int x2)]) hx hb dX6_swapsAreOdd_21 rfl hl (by decide) rfl (fun ls hl => ?_)
        exact hL22 _ _ fu _ _ h _ _ _ hP (lv_sub hl [1, 2, 3, 0] rfl)
      unfold B_X6_swapsAreOdd_2 at h
      refine lv_iload_n hx hb dX6_swapsAreOdd_2 rfl (lv_at hl 1 rfl) ?_
      refine lv_aload_n hx hb dX6_swapsAreOdd_3 rfl (lv_at hl 0 rfl) ?_
      obtain ⟨q1, hq1, h⟩ := ob h
      refine vu_i hP (vu_V S hF hP (h := 26) (hlt _ (by decide)) rfl (by decide) rfl (c_X6_places l P hA hn w hq1) ok_X6_places ml_X6_66 ⟨Nat.le_of_ble_eq_true rfl, Nat.le_of_ble_eq_true rfl⟩ rfl hl.1 rfl (Nat.le_of_ble_eq_true rfl) dX6_swapsAreOdd_4 ⟨Nat.le_of_ble_eq_true rfl, Nat.le_of_ble_eq_true rfl⟩) (fun H locs ho2 hP => ?_)
      refine lv_icmp_ge (tgt := 117) hx hb dX6_swapsAreOdd_7 (by decide) (fun c27 => ?_) (fun c27 => ?_)
      · rw [if_pos c27] at h
        exact hB117 _ h _ _ _ hP (lv_sub hl [0] rfl)
      · rw [if_neg c27] at h
        refine lv_aload_n hx hb dX6_swapsAreOdd_10 rfl (lv_at hl 0 rfl) ?_
        refine vt_getR (r := 27) S hF hP (k := 0) (ci := 6) 26 (hlt _ (by decide)) rfl (by decide) rfl (by decide) rfl rfl (inC_X6 _) (List.mem_cons_of_mem _ fl_X6_7) dX6_swapsAreOdd_11 ?_
        refine lv_bipush (v := 23) hx hb dX6_swapsAreOdd_14 (by decide) ?_
        refine lv_iload_n hx hb dX6_swapsAreOdd_16 rfl (lv_at hl 1 rfl) ?_
        refine lv_iadd hx hb dX6_swapsAreOdd_17 ?_
        obtain ⟨c28, h⟩ := chk h
        refine vt_iald S hF hP (hlt _ (by decide)) rfl c28 dX6_swapsAreOdd_18 ?_
        refine lv_istore_n (lv' := [(2, .int (gI w 27 (Int32.toNatClampNeg ((23 : Int32) + x1)))), (0, .ref (P.2.1 26)), (1, .int x1)]) hx hb dX6_swapsAreOdd_19 rfl hl (by decide) rfl (fun ls hl => ?_)
        exact hB20 _ _ _ h _ _ _ hP (lv_sub hl [1, 2, 0] rfl)
  unfold F_X6_swapsAreOdd at h
  refine lv_iconst (v := 0) hx hb dX6_swapsAreOdd_0 (by decide) ?_
  refine lv_istore_n (lv' := [(1, .int 0), (0, .ref (P.2.1 26))]) hx hb dX6_swapsAreOdd_1 rfl hl (by decide) rfl (fun ls hl => ?_)
  exact hL2 fu _ _ h _ _ _ hP (lv_sub hl [1, 0] rfl)
set_option maxRecDepth 100000 in
set_option maxHeartbeats 4000000 in
theorem c_X6_isOutOfReach (l : Launch) (P : Pl) (hA : Adr P) (hn : 36 ≤ P.2.2.2.1) (w : Wo) {r : Int32 × Wo} (h : F_X6_isOutOfReach w = some r) : CtI l P yX6_isOutOfReach cX6_isOutOfReach 2 (some .boolean) 3 [.ref (P.2.1 26)] w r.1 r.2 := by
  have hlt : ∀ h, h < 36 → h < P.2.2.2.1 := fun h q => Nat.lt_of_lt_of_le q hn
  refine vs_met hA (by decide +kernel) (Nat.le_of_ble_eq_true rfl) (fun p e s m args below meth c ls S hF hP hl hr hk => ?_)
  have hx := S.1
  have hb := S.2.1
  replace hl : lv_has ls 2 [(0, .ref (P.2.1 26))] := hl
  have hB43 : ∀ (w : Wo) (t0 : Int32), B_X6_isOutOfReach_43 w t0 = some r → ∀ (H : Heap) (locs : List Loc) (ls : Array Slot), St P s w H locs → lv_has ls 2 [(0, .ref (P.2.1 26))] → W p l e (rmU 3 0 0) s m args below meth c H locs 0 0 (QI P (some .boolean) r.1 r.2 below args s) (F0 m 43 ls [.int t0]) := by
    intro w t0 h H locs ls hP hl
    unfold B_X6_isOutOfReach_43 at h
    refine lv_istore_n (lv' := [(1, .int t0), (0, .ref (P.2.1 26))]) hx hb dX6_isOutOfReach_43 rfl hl (by decide) rfl (fun ls hl => ?_)
    refine lv_iload_n hx hb dX6_isOutOfReach_44 rfl (lv_at hl 0 rfl) ?_
    refine lv_if_eq (tgt := 59) hx hb dX6_isOutOfReach_45 (by decide) (fun c11 => ?_) (fun c11 => ?_)
    · rw [if_pos c11] at h
      refine lv_iconst (v := 0) hx hb dX6_isOutOfReach_59 (by decide) ?_
      obtain rfl := Option.some.inj h
      exact ve_i (v := 0) S hF hP hr hk rfl dX6_isOutOfReach_60
    · rw [if_neg c11] at h
      refine lv_aload_n hx hb dX6_isOutOfReach_48 rfl (lv_at hl 1 rfl) ?_
      obtain ⟨q5, hq5, h⟩ := ob h
      refine vu_i hP (vu_V S hF hP (h := 26) (hlt _ (by decide)) rfl (by decide) rfl (c_X6_swapsAreOdd l P hA hn w hq5) ok_X6_swapsAreOdd ml_X6_184 ⟨Nat.le_of_ble_eq_true rfl, Nat.le_of_ble_eq_true rfl⟩ rfl hl.1 rfl (Nat.le_of_ble_eq_true rfl) dX6_isOutOfReach_49 ⟨Nat.le_of_ble_eq_true rfl, Nat.le_of_ble_eq_true rfl⟩) (fun H locs ho6 hP => ?_)
      refine lv_if_eq (tgt := 59) hx hb dX6_isOutOfReach_52 (by decide) (fun c12 => ?_) (fun c12 => ?_)
      · rw [if_pos c12] at h
        refine lv_iconst (v := 0) hx hb dX6_isOutOfReach_59 (by decide) ?_
        obtain rfl := Option.some.inj h
        exact ve_i (v := 0) S hF hP hr hk rfl dX6_isOutOfReach_60
      · rw [if_neg c12] at h
        refine lv_iconst (v := 1) hx hb dX6_isOutOfReach_55 (by decide) ?_
        refine lv_goto (tgt := 60) hx hb dX6_isOutOfReach_56 (by decide) ?_
        obtain rfl := Option.some.inj h
        exact ve_i (v := 1) S hF hP hr hk rfl dX6_isOutOfReach_60
  have hB42 : ∀ (w : Wo), B_X6_isOutOfReach_42 w = some r → ∀ (H : Heap) (locs : List Loc) (ls : Array Slot), St P s w H locs → lv_has ls 2 [(0, .ref (P.2.1 26))] → W p l e (rmU 3 0 0) s m args below meth c H locs 0 0 (QI P (some .boolean) r.1 r.2 below args s) (F0 m 42 ls []) := by
    intro w h H locs ls hP hl
    unfold B_X6_isOutOfReach_42 at h
    refine lv_iconst (v := 0) hx hb dX6_isOutOfReach_42 (by decide) ?_
    exact hB43 _ _ h _ _ _ hP (lv_sub hl [0] rfl)
  unfold F_X6_isOutOfReach at h
  refine lv_aload_n hx hb dX6_isOutOfReach_0 rfl (lv_at hl 0 rfl) ?_
  obtain ⟨q1, hq1, h⟩ := ob h
  refine vu_i hP (vu_V S hF hP (h := 26) (hlt _ (by decide)) rfl (by decide) rfl (c_X6_lacksLetters l P hA hn w hq1) ok_X6_lacksLetters ml_X6_177 ⟨Nat.le_of_ble_eq_true rfl, Nat.le_of_ble_eq_true rfl⟩ rfl hl.1 rfl (Nat.le_of_ble_eq_true rfl) dX6_isOutOfReach_1 ⟨Nat.le_of_ble_eq_true rfl, Nat.le_of_ble_eq_true rfl⟩) (fun H locs ho2 hP => ?_)
  refine lv_if_eq (tgt := 9) hx hb dX6_isOutOfReach_4 (by decide) (fun c13 => ?_) (fun c13 => ?_)
  · rw [if_pos c13] at h
    refine lv_aload_n hx hb dX6_isOutOfReach_9 rfl (lv_at hl 0 rfl) ?_
    obtain ⟨q3, hq3, h⟩ := ob h
    refine vu_i hP (vu_V S hF hP (h := 26) (hlt _ (by decide)) rfl (by decide) rfl (c_X6_places l P hA hn w hq3) ok_X6_places ml_X6_66 ⟨Nat.le_of_ble_eq_true rfl, Nat.le_of_ble_eq_true rfl⟩ rfl hl.1 rfl (Nat.le_of_ble_eq_true rfl) dX6_isOutOfReach_10 ⟨Nat.le_of_ble_eq_true rfl, Nat.le_of_ble_eq_true rfl⟩) (fun H locs ho4 hP => ?_)
    refine lv_bipush (v := 9) hx hb dX6_isOutOfReach_13 (by decide) ?_
    refine lv_icmp_ne (tgt := 42) hx hb dX6_isOutOfReach_15 (by decide) (fun c14 => ?_) (fun c14 => ?_)
    · rw [if_neg c14] at h
      exact hB42 _ h _ _ _ hP (lv_sub hl [0] rfl)
    · rw [if_pos c14] at h
      refine lv_aload_n hx hb dX6_isOutOfReach_18 rfl (lv_at hl 0 rfl) ?_
      obtain ⟨q7, hq7, h⟩ := ob h
      refine vu_i hP (vu_V S hF hP (h := 26) (hlt _ (by decide)) rfl (by decide) rfl (c_X6_unlike l P hA hn w hq7) ok_X6_unlike ml_X6_181 ⟨Nat.le_of_ble_eq_true rfl, Nat.le_of_ble_eq_true rfl⟩ rfl hl.1 rfl (Nat.le_of_ble_eq_true rfl) dX6_isOutOfReach_19 ⟨Nat.le_of_ble_eq_true rfl, Nat.le_of_ble_eq_true rfl⟩) (fun H locs ho8 hP => ?_)
      refine lv_bipush (v := 9) hx hb dX6_isOutOfReach_22 (by decide) ?_
      refine lv_icmp_ne (tgt := 42) hx hb dX6_isOutOfReach_24 (by decide) (fun c15 => ?_) (fun c15 => ?_)
      · rw [if_neg c15] at h
        exact hB42 _ h _ _ _ hP (lv_sub hl [0] rfl)
      · rw [if_pos c15] at h
        refine lv_aload_n hx hb dX6_isOutOfReach_27 rfl (lv_at hl 0 rfl) ?_
        refine lv_bipush (v := 23) hx hb dX6_isOutOfReach_28 (by decide) ?_
        refine lv_iconst (v := (-1)) hx hb dX6_isOutOfReach_30 (by decide) ?_
        obtain ⟨q9, hq9, h⟩ := ob h
        refine vu_i hP (vu_V S hF hP (h := 26) (hlt _ (by decide)) rfl (by decide) rfl (c_X6_timesOf l P hA hn w 23 (-1) hq9) ok_X6_timesOf ml_X6_174 ⟨Nat.le_of_ble_eq_true rfl, Nat.le_of_ble_eq_true rfl⟩ rfl hl.1 rfl (Nat.le_of_ble_eq_true rfl) dX6_isOutOfReach_31 ⟨Nat.le_of_ble_eq_true rfl, Nat.le_of_ble_eq_true rfl⟩) (fun H locs ho10 hP => ?_)
        refine lv_iconst (v := 2) hx hb dX6_isOutOfReach_34 (by decide) ?_
        refine lv_icmp_ge (tgt := 42) hx hb dX6_isOutOfReach_35 (by decide) (fun c16 => ?_) (fun c16 => ?_)
        · rw [if_pos c16] at h
          exact hB42 _ h _ _ _ hP (lv_sub hl [0] rfl)
        · rw [if_neg c16] at h
          refine lv_iconst (v := 1) hx hb dX6_isOutOfReach_38 (by decide) ?_
          refine lv_goto (tgt := 43) hx hb dX6_isOutOfReach_39 (by decide) ?_
          exact hB43 _ _ h _ _ _ hP (lv_sub hl [0] rfl)
  · rw [if_neg c13] at h
    refine lv_iconst (v := 1) hx hb dX6_isOutOfReach_7 (by decide) ?_
    obtain rfl := Option.some.inj h
    exact ve_i (v := 1) S hF hP hr hk rfl dX6_isOutOfReach_8
