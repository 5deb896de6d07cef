set_option maxRecDepth 100000 in
set_option maxHeartbeats 4000000 in
theorem c_X4_kindOf (l : Launch) (P : Pl) (hA : Adr P) (hn : 26 ≤ P.2.2.2.1) (w : Wo) (x1 : Int32) {r : Int32} (h : F_X4_kindOf w x1 = some r) : CtI l P yX4_kindOf cX4_kindOf 2 (some .int) 0 [.ref (P.2.1 21), .int x1] w r w := by
  have hlt : ∀ h, h < 26 → h < P.2.2.2.1 := fun h q => Nat.lt_of_lt_of_le q hn
  refine vs_met hA (by decide +kernel) (Nat.le_of_ble_eq_true rfl) (fun p e s m args below meth c ls S hF hP hl hr hk => ?_)
  have hx := S.1
  have hb := S.2.1
  replace hl : lv_has ls 2 [(0, .ref (P.2.1 21)), (1, .int x1)] := hl
  unfold F_X4_kindOf at h
  refine lv_iload_n hx hb dX4_kindOf_0 rfl (lv_at hl 1 rfl) ?_
  refine lv_if_lt (tgt := 22) hx hb dX4_kindOf_1 (by decide) (fun c1 => ?_) (fun c1 => ?_)
  · rw [if_pos c1] at h
    refine lv_iconst (v := (-1)) hx hb dX4_kindOf_22 (by decide) ?_
    obtain rfl := Option.some.inj h
    exact ve_i (v := (-1)) S hF hP hr hk rfl dX4_kindOf_23
  · rw [if_neg c1] at h
    refine lv_iload_n hx hb dX4_kindOf_4 rfl (lv_at hl 1 rfl) ?_
    refine lv_aload_n hx hb dX4_kindOf_5 rfl (lv_at hl 0 rfl) ?_
    refine vt_getR (r := 22) S hF hP (k := 0) (ci := 4) 21 (hlt _ (by decide)) rfl (by decide) rfl (by decide) rfl rfl (inC_X4 _) (List.mem_cons_of_mem _ fl_X4_9) dX4_kindOf_6 ?_
    refine vt_alen (v := 60) S hF hP (hlt _ (by decide)) rfl (by decide) rfl dX4_kindOf_9 ?_
    refine lv_icmp_ge (tgt := 22) hx hb dX4_kindOf_10 (by decide) (fun c2 => ?_) (fun c2 => ?_)
    · rw [if_pos c2] at h
      refine lv_iconst (v := (-1)) hx hb dX4_kindOf_22 (by decide) ?_
      obtain rfl := Option.some.inj h
      exact ve_i (v := (-1)) S hF hP hr hk rfl dX4_kindOf_23
    · rw [if_neg c2] at h
      refine lv_aload_n hx hb dX4_kindOf_13 rfl (lv_at hl 0 rfl) ?_
      refine vt_getR (r := 22) S hF hP (k := 0) (ci := 4) 21 (hlt _ (by decide)) rfl (by decide) rfl (by decide) rfl rfl (inC_X4 _) (List.mem_cons_of_mem _ fl_X4_9) dX4_kindOf_14 ?_
      refine lv_iload_n hx hb dX4_kindOf_17 rfl (lv_at hl 1 rfl) ?_
      obtain ⟨c3, h⟩ := chk h
      refine vt_iald S hF hP (hlt _ (by decide)) rfl c3 dX4_kindOf_18 ?_
      refine lv_goto (tgt := 23) hx hb dX4_kindOf_19 (by decide) ?_
      obtain rfl := Option.some.inj h
      exact ve_i (v := (gI w 22 (Int32.toNatClampNeg x1))) S hF hP hr hk rfl dX4_kindOf_23
set_option maxRecDepth 100000 in
set_option maxHeartbeats 4000000 in
theorem c_X4_oneOf (l : Launch) (P : Pl) (hA : Adr P) (hn : 26 ≤ P.2.2.2.1) (w : Wo) (x1 : Int32) {r : Int32} (h : F_X4_oneOf w x1 = some r) : CtI l P yX4_oneOf cX4_oneOf 2 (some .int) 0 [.ref (P.2.1 21), .int x1] w r w := by
  have hlt : ∀ h, h < 26 → h < P.2.2.2.1 := fun h q => Nat.lt_of_lt_of_le q hn
  refine vs_met hA (by decide +kernel) (Nat.le_of_ble_eq_true rfl) (fun p e s m args below meth c ls S hF hP hl hr hk => ?_)
  have hx := S.1
  have hb := S.2.1
  replace hl : lv_has ls 2 [(0, .ref (P.2.1 21)), (1, .int x1)] := hl
  unfold F_X4_oneOf at h
  refine lv_iload_n hx hb dX4_oneOf_0 rfl (lv_at hl 1 rfl) ?_
  refine lv_if_lt (tgt := 22) hx hb dX4_oneOf_1 (by decide) (fun c1 => ?_) (fun c1 => ?_)
  · rw [if_pos c1] at h
    refine lv_iconst (v := (-1)) hx hb dX4_oneOf_22 (by decide) ?_
    obtain rfl := Option.some.inj h
    exact ve_i (v := (-1)) S hF hP hr hk rfl dX4_oneOf_23
  · rw [if_neg c1] at h
    refine lv_iload_n hx hb dX4_oneOf_4 rfl (lv_at hl 1 rfl) ?_
    refine lv_aload_n hx hb dX4_oneOf_5 rfl (lv_at hl 0 rfl) ?_
    refine vt_getR (r := 23) S hF hP (k := 1) (ci := 4) 21 (hlt _ (by decide)) rfl (by decide) rfl (by decide) rfl rfl (inC_X4 _) (List.mem_cons_of_mem _ fl_X4_15) dX4_oneOf_6 ?_
    refine vt_alen (v := 60) S hF hP (hlt _ (by decide)) rfl (by decide) rfl dX4_oneOf_9 ?_
    refine lv_icmp_ge (tgt := 22) hx hb dX4_oneOf_10 (by decide) (fun c2 => ?_) (fun c2 => ?_)
    · rw [if_pos c2] at h
      refine lv_iconst (v := (-1)) hx hb dX4_oneOf_22 (by decide) ?_
      obtain rfl := Option.some.inj h
      exact ve_i (v := (-1)) S hF hP hr hk rfl dX4_oneOf_23
    · rw [if_neg c2] at h
      refine lv_aload_n hx hb dX4_oneOf_13 rfl (lv_at hl 0 rfl) ?_
      refine vt_getR (r := 23) S hF hP (k := 1) (ci := 4) 21 (hlt _ (by decide)) rfl (by decide) rfl (by decide) rfl rfl (inC_X4 _) (List.mem_cons_of_mem _ fl_X4_15) dX4_oneOf_14 ?_
      refine lv_iload_n hx hb dX4_oneOf_17 rfl (lv_at hl 1 rfl) ?_
      obtain ⟨c3, h⟩ := chk h
      refine vt_iald S hF hP (hlt _ (by decide)) rfl c3 dX4_oneOf_18 ?_
      refine lv_goto (tgt := 23) hx hb dX4_oneOf_19 (by decide) ?_
      obtain rfl := Option.some.inj h
      exact ve_i (v := (gI w 23 (Int32.toNatClampNeg x1))) S hF hP hr hk rfl dX4_oneOf_23
set_option maxRecDepth 100000 in
set_option maxHeartbeats 4000000 in
theorem c_X4_otherOf (l : Launch) (P : Pl) (hA : Adr P) (hn : 26 ≤ P.2.2.2.1) (w : Wo) (x1 : Int32) {r : Int32} (h : F_X4_otherOf w x1 = some r) : CtI l P yX4_otherOf cX4_otherOf 2 (some .int) 0 [.ref (P.2.1 21), .int x1] w r w := by
  have hlt : ∀ h, h < 26 → h < P.2.2.2.1 := fun h q => Nat.lt_of_lt_of_le q hn
  refine vs_met hA (by decide +kernel) (Nat.le_of_ble_eq_true rfl) (fun p e s m args below meth c ls S hF hP hl hr hk => ?_)
  have hx := S.1
  have hb := S.2.1
  replace hl : lv_has ls 2 [(0, .ref (P.2.1 21)), (1, .int x1)] := hl
  unfold F_X4_otherOf at h
  refine lv_iload_n hx hb dX4_otherOf_0 rfl (lv_at hl 1 rfl) ?_
  refine lv_if_lt (tgt := 22) hx hb dX4_otherOf_1 (by decide) (fun c1 => ?_) (fun c1 => ?_)
  · rw [if_pos c1] at h
    refine lv_iconst (v := (-1)) hx hb dX4_otherOf_22 (by decide) ?_
    obtain rfl := Option.some.inj h
    exact ve_i (v := (-1)) S hF hP hr hk rfl dX4_otherOf_23
  · rw [if_neg c1] at h
    refine lv_iload_n hx hb dX4_otherOf_4 rfl (lv_at hl 1 rfl) ?_
    refine lv_aload_n hx hb dX4_otherOf_5 rfl (lv_at hl 0 rfl) ?_
    refine vt_getR (r := 24) S hF hP (k := 2) (ci := 4) 21 (hlt _ (by decide)) rfl (by decide) rfl (by decide) rfl rfl (inC_X4 _) (List.mem_cons_of_mem _ fl_X4_18) dX4_otherOf_6 ?_
    refine vt_alen (v := 60) S hF hP (hlt _ (by decide)) rfl (by decide) rfl dX4_otherOf_9 ?_
    refine lv_icmp_ge (tgt := 22) hx hb dX4_otherOf_10 (by decide) (fun c2 => ?_) (fun c2 => ?_)
    · rw [if_pos c2] at h
      refine lv_iconst (v := (-1)) hx hb dX4_otherOf_22 (by decide) ?_
      obtain rfl := Option.some.inj h
      exact ve_i (v := (-1)) S hF hP hr hk rfl dX4_otherOf_23
    · rw [if_neg c2] at h
      refine lv_aload_n hx hb dX4_otherOf_13 rfl (lv_at hl 0 rfl) ?_
      refine vt_getR (r := 24) S hF hP (k := 2) (ci := 4) 21 (hlt _ (by decide)) rfl (by decide) rfl (by decide) rfl rfl (inC_X4 _) (List.mem_cons_of_mem _ fl_X4_18) dX4_otherOf_14 ?_
      refine lv_iload_n hx hb dX4_otherOf_17 rfl (lv_at hl 1 rfl) ?_
      obtain ⟨c3, h⟩ := chk h
      refine vt_iald S hF hP (hlt _ (by decide)) rfl c3 dX4_otherOf_18 ?_
      refine lv_goto (tgt := 23) hx hb dX4_otherOf_19 (by decide) ?_
      obtain rfl := Option.some.inj h
      exact ve_i (v := (gI w 24 (Int32.toNatClampNeg x1))) S hF hP hr hk rfl dX4_otherOf_23
set_option maxRecDepth 100000 in
set_option maxHeartbeats 4000000 in
theorem c_X5_carryOutAll (l : Launch) (P : Pl) (hA : Adr P) (hn : 26 ≤ P.2.2.2.1) (w : Wo) {r : Int32 × Wo} (h : F_X5_carryOutAll w = some r) : CtI l P yX5_carryOutAll cX5_carryOutAll 3 (some .int) 5 [.ref (P.2.1 0)] w r.1 r.2 := by
  have hlt : ∀ h, h < 26 → h < P.2.2.2.1 := fun h q => Nat.lt_of_lt_of_le q hn
  refine vs_met hA (by decide +kernel) (Nat.le_of_ble_eq_true rfl) (fun p e s m args below meth c ls S hF hP hl hr hk => ?_)
  have hx := S.1
  have hb := S.2.1
  replace hl : lv_has ls 3 [(0, .ref (P.2.1 0))] := hl
  have hB104 : ∀ (w : Wo), B_X5_carryOutAll_104 w = some r → ∀ (H : Heap) (locs : List Loc) (ls : Array Slot), St P s w H locs → lv_has ls 3 [(0, .ref (P.2.1 0))] → W p l e (rmU 5 0 0) s m args below meth c H locs 0 0 (QI P (some .int) r.1 r.2 below args s) (F0 m 104 ls []) := by
    intro w h H locs ls hP hl
    unfold B_X5_carryOutAll_104 at h
    refine lv_aload_n hx hb dX5_carryOutAll_104 rfl (lv_at hl 0 rfl) ?_
    refine vt_getR (r := 4) S hF hP (k := 3) (ci := 5) 0 (hlt _ (by decide)) rfl (by decide) rfl (by decide) rfl rfl (inC_X5 _) (List.mem_cons_of_mem _ fl_X5_25) dX5_carryOutAll_105 ?_
    refine lv_aload_n hx hb dX5_carryOutAll_108 rfl (lv_at hl 0 rfl) ?_
    refine vt_getR (r := 2) S hF hP (k := 1) (ci := 5) 0 (hlt _ (by decide)) rfl (by decide) rfl (by decide) rfl rfl (inC_X5 _) (List.mem_cons_of_mem _ fl_X5_16) dX5_carryOutAll_109 ?_
    obtain ⟨q2, hq2, h⟩ := ob h
    refine vu_v hP (vu_V S hF hP (h := 4) (hlt _ (by decide)) rfl (by decide) rfl (c_X2_keep l P hA hn 2 rfl (by decide) w hq2) ok_X2_keep ml_X5_134 ⟨Nat.le_of_ble_eq_true rfl, Nat.le_of_ble_eq_true rfl⟩ rfl hl.1 rfl (Nat.le_of_ble_eq_true rfl) dX5_carryOutAll_112 ⟨Nat.le_of_ble_eq_true rfl, Nat.le_of_ble_eq_true rfl⟩) (fun H locs hP => ?_)
    refine lv_iconst (v := 0) hx hb dX5_carryOutAll_115 (by decide) ?_
    obtain rfl := Option.some.inj h
    exact ve_i (v := 0) S hF hP hr hk rfl dX5_carryOutAll_116
  have hB57 : ∀ (w : Wo) (x2 : Int32), B_X5_carryOutAll_57 w x2 = some r → ∀ (H : Heap) (locs : List Loc) (ls : Array Slot), St P s w H locs → lv_has ls 3 [(0, .ref (P.2.1 0)), (2, .int x2)] → W p l e (rmU 5 0 0) s m args below meth c H locs 0 0 (QI P (some .int) r.1 r.2 below args s) (F0 m 57 ls []) := by
    intro w x2 h H locs ls hP hl
    unfold B_X5_carryOutAll_57 at h
    refine lv_aload_n hx hb dX5_carryOutAll_57 rfl (lv_at hl 0 rfl) ?_
    refine vt_getR (r := 1) S hF hP (k := 0) (ci := 5) 0 (hlt _ (by decide)) rfl (by decide) rfl (by decide) rfl rfl (inC_X5 _) (List.mem_cons_of_mem _ fl_X5_12) dX5_carryOutAll_58 ?_
    refine lv_aload_n hx hb dX5_carryOutAll_61 rfl (lv_at hl 0 rfl) ?_
    refine vt_getR (r := 2) S hF hP (k := 1) (ci := 5) 0 (hlt _ (by decide)) rfl (by decide) rfl (by decide) rfl rfl (inC_X5 _) (List.mem_cons_of_mem _ fl_X5_16) dX5_carryOutAll_62 ?_
    obtain ⟨q18, hq18, h⟩ := ob h
    refine vu_v hP (vu_V S hF hP (h := 1) (hlt _ (by decide)) rfl (by decide) rfl (c_X0_copy l P hA hn 1 2 rfl (by decide) rfl (by decide) w hq18) ok_X0_copy ml_X5_306 ⟨Nat.le_of_ble_eq_true rfl, Nat.le_of_ble_eq_true rfl⟩ rfl hl.1 rfl (Nat.le_of_ble_eq_true rfl) dX5_carryOutAll_65 ⟨Nat.le_of_ble_eq_true rfl, Nat.le_of_ble_eq_true rfl⟩) (fun H locs hP => ?_)
    refine lv_iload_n hx hb dX5_carryOutAll_68 rfl (lv_at hl 1 rfl) ?_
    obtain rfl := Option.some.inj h
    exact ve_i (v := x2) S hF hP hr hk rfl dX5_carryOutAll_69
  have hL13 : ∀ (n : Nat) (w : Wo) (x1 : Int32), jl2 (B_X5_carryOutAll_13) n w x1 = some r → ∀ (H : Heap) (locs : List Loc) (ls : Array Slot), St P s w H locs → lv_has ls 3 [(0, .ref (P.2.1 0)), (1, .int x1)] → W p l e (rmU 5 0 0) s m args below meth c H locs 0 0 (QI P (some .int) r.1 r.2 below args s) (F0 m 13 ls []) := by
    intro n
    induction n with
    | zero =>
      intro w x1 h
      cases h
    | succ n ih13 =>
      intro w x1 h H locs ls hP hl
      replace h : B_X5_carryOutAll_13 (jl2 (B_X5_carryOutAll_13) n) w x1 = some r := h
      revert h ih13
      generalize jl2 (B_X5_carryOutAll_13) n = k13
      intro ih13 h
      unfold B_X5_carryOutAll_13 at h
      refine lv_iload_n hx hb dX5_carryOutAll_13 rfl (lv_at hl 1 rfl) ?_
      refine lv_aload_n hx hb dX5_carryOutAll_14 rfl (lv_at hl 0 rfl) ?_
      refine vt_getR (r := 21) S hF hP (k := 6) (ci := 5) 0 (hlt _ (by decide)) rfl (by decide) rfl (by decide) rfl rfl (inC_X5 _) (List.mem_cons_of_mem _ fl_X5_46) dX5_carryOutAll_15 ?_
      refine vt_getI S hF hP (k := 6) (ci := 4) 21 (hlt _ (by decide)) rfl (by decide) rfl (by decide) rfl (inC_X4 _) (List.mem_cons_of_mem _ fl_X5_271) dX5_carryOutAll_18 ?_
      refine lv_icmp_ge (tgt := 104) hx hb dX5_carryOutAll_21 (by decide) (fun c19 => ?_) (fun c19 => ?_)
      · rw [if_pos c19] at h
        exact hB104 _ h _ _ _ hP (lv_sub hl [0] rfl)
      · rw [if_neg c19] at h
        refine lv_aload_n hx hb dX5_carryOutAll_24 rfl (lv_at hl 0 rfl) ?_
        refine lv_aload_n hx hb dX5_carryOutAll_25 rfl (lv_at hl 0 rfl) ?_
        refine vt_getR (r := 21) S hF hP (k := 6) (ci := 5) 0 (hlt _ (by decide)) rfl (by decide) rfl (by decide) rfl rfl (inC_X5 _) (List.mem_cons_of_mem _ fl_X5_46) dX5_carryOutAll_26 ?_
        refine lv_iload_n hx hb dX5_carryOutAll_29 rfl (lv_at hl 1 rfl) ?_
        obtain ⟨q3, hq3, h⟩ := ob h
        refine vu_i hP (vu_V S hF hP (h := 21) (hlt _ (by decide)) rfl (by decide) rfl (c_X4_kindOf l P hA hn w x1 hq3) ok_X4_kindOf ml_X5_372 ⟨Nat.le_of_ble_eq_true rfl, Nat.le_of_ble_eq_true rfl⟩ rfl hl.1 rfl (Nat.le_of_ble_eq_true rfl) dX5_carryOutAll_30 ⟨Nat.le_of_ble_eq_true rfl, Nat.le_of_ble_eq_true rfl⟩) (fun H locs ho4 hP => ?_)
        refine lv_aload_n hx hb dX5_carryOutAll_33 rfl (lv_at hl 0 rfl) ?_
        refine vt_getR (r := 21) S hF hP (k := 6) (ci := 5) 0 (hlt _ (by decide)) rfl (by decide) rfl (by decide) rfl rfl (inC_X5 _) (List.mem_cons_of_mem _ fl_X5_46) dX5_carryOutAll_34 ?_
        refine lv_iload_n hx hb dX5_carryOutAll_37 rfl (lv_at hl 1 rfl) ?_
        obtain ⟨q5, hq5, h⟩ := ob h
        refine vu_i hP (vu_V S hF hP (h := 21) (hlt _ (by decide)) rfl (by decide) rfl (c_X4_oneOf l P hA hn w x1 hq5) ok_X4_oneOf ml_X5_375 ⟨Nat.le_of_ble_eq_true rfl, Nat.le_of_ble_eq_true rfl⟩ rfl hl.1 rfl (Nat.le_of_ble_eq_true rfl) dX5_carryOutAll_38 ⟨Nat.le_of_ble_eq_true rfl, Nat.le_of_ble_eq_true rfl⟩) (fun H locs ho6 hP => ?_)
        refine lv_aload_n hx hb dX5_carryOutAll_41 rfl (lv_at hl 0 rfl) ?_
        refine vt_getR (r := 21) S hF hP (k := 6) (ci := 5) 0 (hlt _ (by decide)) rfl (by decide) rfl (by decide) rfl rfl (inC_X5 _) (List.mem_cons_of_mem _ fl_X5_46) dX5_carryOutAll_42 ?_
        refine lv_iload_n hx hb dX5_carryOutAll_45 rfl (lv_at hl 1 rfl) ?_
        obtain ⟨q7, hq7, h⟩ := ob h
        refine vu_i hP (vu_V S hF hP (h := 21) (hlt _ (by decide)) rfl (by decide) rfl (c_X4_otherOf l P hA hn w x1 hq7) ok_X4_otherOf ml_X5_378 ⟨Nat.le_of_ble_eq_true rfl, Nat.le_of_ble_eq_true rfl⟩ rfl hl.1 rfl (Nat.le_of_ble_eq_true rfl) dX5_carryOutAll_46 ⟨Nat.le_of_ble_eq_true rfl, Nat.le_of_ble_eq_true rfl⟩) (fun H locs ho8 hP => ?_)
        obtain ⟨q9, hq9, h⟩ := ob h
        refine vu_i hP (vu_V S hF hP (h := 0) (hlt _ (by decide)) rfl (by decide) rfl (c_X5_judge l P hA hn w q3 q5 q7 hq9) ok_X5_judge ml_X5_328 ⟨Nat.le_of_ble_eq_true rfl, Nat.le_of_ble_eq_true rfl⟩ rfl hl.1 rfl (Nat.le_of_ble_eq_true rfl) dX5_carryOutAll_49 ⟨Nat.le_of_ble_eq_true rfl, Nat.le_of_ble_eq_true rfl⟩) (fun H locs ho10 hP => ?_)
        refine lv_istore_n (lv' := [(2, .int q9.1), (0, .ref (P.2.1 0)), (1, .int x1)]) hx hb dX5_carryOutAll_52 rfl hl (by decide) rfl (fun ls hl => ?_)
        refine lv_iload_n hx hb dX5_carryOutAll_53 rfl (lv_at hl 0 rfl) ?_
        refine lv_if_eq (tgt := 70) hx hb dX5_carryOutAll_54 (by decide) (fun c20 => ?_) (fun c20 => ?_)
        · rw [if_pos c20] at h
          refine lv_aload_n hx hb dX5_carryOutAll_70 rfl (lv_at hl 1 rfl) ?_
          refine lv_aload_n hx hb dX5_carryOutAll_71 rfl (lv_at hl 1 rfl) ?_
          refine vt_getR (r := 21) S hF hP (k := 6) (ci := 5) 0 (hlt _ (by decide)) rfl (by decide) rfl (by decide) rfl rfl (inC_X5 _) (List.mem_cons_of_mem _ fl_X5_46) dX5_carryOutAll_72 ?_
          refine lv_iload_n hx hb dX5_carryOutAll_75 rfl (lv_at hl 2 rfl) ?_
          obtain ⟨q11, hq11, h⟩ := ob h
          refine vu_i hP (vu_V S hF hP (h := 21) (hlt _ (by decide)) rfl (by decide) rfl (c_X4_kindOf l P hA hn q9.2 x1 hq11) ok_X4_kindOf ml_X5_372 ⟨Nat.le_of_ble_eq_true rfl, Nat.le_of_ble_eq_true rfl⟩ rfl hl.1 rfl (Nat.le_of_ble_eq_true rfl) dX5_carryOutAll_76 ⟨Nat.le_of_ble_eq_true rfl, Nat.le_of_ble_eq_true rfl⟩) (fun H locs ho12 hP => ?_)
          refine lv_aload_n hx hb dX5_carryOutAll_79 rfl (lv_at hl 1 rfl) ?_
          refine vt_getR (r := 21) S hF hP (k := 6) (ci := 5) 0 (hlt _ (by decide)) rfl (by decide) rfl (by decide) rfl rfl (inC_X5 _) (List.mem_cons_of_mem _ fl_X5_46) dX5_carryOutAll_80 ?_
          refine lv_iload_n hx hb dX5_carryOutAll_83 rfl (lv_at hl 2 rfl) ?_
          obtain ⟨q13, hq13, h⟩ := ob h
          refine vu_i hP (vu_V S hF hP (h := 21) (hlt _ (by decide)) rfl (by decide) rfl (c_X4_oneOf l P hA hn q9.2 x1 hq13) ok_X4_oneOf ml_X5_375 ⟨Nat.le_of_ble_eq_true rfl, Nat.le_of_ble_eq_true rfl⟩ rfl hl.1 rfl (Nat.le_of_ble_eq_true rfl) dX5_carryOutAll_84 ⟨Nat.le_of_ble_eq_true rfl, Nat.le_of_ble_eq_true rfl⟩) (fun H locs ho14 hP => ?_)
          refine lv_aload_n hx hb dX5_carryOutAll_87 rfl (lv_at hl 1 rfl) ?_
          refine vt_getR (r := 21) S hF hP (k := 6) (ci := 5) 0 (hlt _ (by decide)) rfl (by decide) rfl (by decide) rfl rfl (inC_X5 _) (List.mem_cons_of_mem _ fl_X5_46) dX5_carryOutAll_88 ?_
          refine lv_iload_n hx hb dX5_carryOutAll_91 rfl (lv_at hl 2 rfl) ?_
          obtain ⟨q15, hq15, h⟩ := ob h
          refine vu_i hP (vu_V S hF hP (h := 21) (hlt _ (by decide)) rfl (by decide) rfl (c_X4_otherOf l P hA hn q9.2 x1 hq15) ok_X4_otherOf ml_X5_378 ⟨Nat.le_of_ble_eq_true rfl, Nat.le_of_ble_eq_true rfl⟩ rfl hl.1 rfl (Nat.le_of_ble_eq_true rfl) dX5_carryOutAll_92 ⟨Nat.le_of_ble_eq_true rfl, Nat.le_of_ble_eq_true rfl⟩) (fun H locs ho16 hP => ?_)
          obtain ⟨q17, hq17, h⟩ := ob h
          refine vu_v hP (vu_V S hF hP (h := 0) (hlt _ (by decide)) rfl (by decide) rfl (c_X5_carryOut l P hA hn q9.2 q11 q13 q15 hq17) ok_X5_carryOut ml_X5_331 ⟨Nat.le_of_ble_eq_true rfl, Nat.le_of_ble_eq_true rfl⟩ rfl hl.1 rfl (Nat.le_of_ble_eq_true rfl) dX5_carryOutAll_95 ⟨Nat.le_of_ble_eq_true rfl, Nat.le_of_ble_eq_true rfl⟩) (fun H locs hP => ?_)
          refine lv_iinc (v := (x1 + 1)) (lv' := [(1, .int (x1 + 1)), (2, .int q9.1), (0, .ref (P.2.1 0))]) hx hb dX5_carryOutAll_98 hl (k := 2) rfl rfl (by decide) rfl (fun ls hl => ?_)
          refine lv_goto (tgt := 13) hx hb dX5_carryOutAll_101 (by decide) ?_
          exact ih13 _ _ h _ _ _ hP (lv_sub hl [2, 0] rfl)
        · rw [if_neg c20] at h
          exact hB57 _ _ h _ _ _ hP (lv_sub hl [1, 0] rfl)
  unfold F_X5_carryOutAll at h
  refine lv_aload_n hx hb dX5_carryOutAll_0 rfl (lv_at hl 0 rfl) ?_
  refine vt_getR (r := 2) S hF hP (k := 1) (ci := 5) 0 (hlt _ (by decide)) rfl (by decide) rfl (by decide) rfl rfl (inC_X5 _) (List.mem_cons_of_mem _ fl_X5_16) dX5_carryOutAll_1 ?_
  refine lv_aload_n hx hb dX5_carryOutAll_4 rfl (lv_at hl 0 rfl) ?_
  refine vt_getR (r := 1) S hF hP (k := 0) (ci := 5) 0 (hlt _ (by decide)) rfl (by decide) rfl (by decide) rfl rfl (inC_X5 _) (List.mem_cons_of_mem _ fl_X5_12) dX5_carryOutAll_5 ?_
  obtain ⟨q1, hq1, h⟩ := ob h
  refine vu_v hP (vu_V S hF hP (h := 2) (hlt _ (by decide)) rfl (by decide) rfl (c_X0_copy l P hA hn 2 1 rfl (by decide) rfl (by decide) w hq1) ok_X0_copy ml_X5_306 ⟨Nat.le_of_ble_eq_true rfl, Nat.le_of_ble_eq_true rfl⟩ rfl hl.1 rfl (Nat.le_of_ble_eq_true rfl) dX5_carryOutAll_8 ⟨Nat.le_of_ble_eq_true rfl, Nat.le_of_ble_eq_true rfl⟩) (fun H locs hP => ?_)
  refine lv_iconst (v := 0) hx hb dX5_carryOutAll_11 (by decide) ?_
  refine lv_istore_n (lv' := [(1, .int 0), (0, .ref (P.2.1 0))]) hx hb dX5_carryOutAll_12 rfl hl (by decide) rfl (fun ls hl => ?_)
  exact hL13 fu _ _ h _ _ _ hP (lv_sub hl [1, 0] rfl)
set_option maxRecDepth 100000 in
set_option maxHeartbeats 4000000 in
theorem c_X5_run (l : Launch) (P : Pl) (hA : Adr P) (hn : 26 ≤ P.2.2.2.1) (hst : l.stackTraces = false) (w : Wo) {r : (Nat × Wo) ⊕ (Int32 × Wo)} (h : F_X5_run w = some r) : CxI l P yX5_run cX5_run 2 (some .int) 7 1 [.ref (P.2.1 0)] w r := by
  have hlt : ∀ h, h < 26 → h < P.2.2.2.1 := fun h q => Nat.lt_of_lt_of_le q hn
  refine vs_vx hA (by decide +kernel) (Nat.le_of_ble_eq_true rfl) (fun p e s m args below meth c ls S hF hP hl hr hk hxt => ?_)
  have hx := S.1
  have hb := S.2.1
  replace hl : lv_has ls 2 [(0, .ref (P.2.1 0))] := hl
  have hB50 : ∀ (w : Wo) (t0 : Int32), B_X5_run_50 w t0 = some r → ∀ (H : Heap) (locs : List Loc) (ls : Array Slot), St P s w H locs → lv_has ls 2 [(0, .ref (P.2.1 0))] → W p l e (rmU 7 1 (6 * 1)) s m args below meth c H locs 0 0 (XI P 1 r below args s) (F0 m 50 ls [.int t0]) := by
    intro w t0 h H locs ls hP hl
    unfold B_X5_run_50 at h
    obtain ⟨q3, hq3, h⟩ := ob h
    refine vu_xv hP (vu_SX S hF hP (c_X5_raise l P hA hn hst w t0 hq3) ok_X5_raise ml_X5_116 ⟨Nat.le_of_ble_eq_true rfl, Nat.le_of_ble_eq_true rfl⟩ rfl hl.1 rfl (Nat.le_of_ble_eq_true rfl) dX5_run_50 ⟨Nat.le_of_ble_eq_true rfl, Nat.le_of_ble_eq_true rfl⟩) (fun H locs u ce q9 ho hP e1 e2 e3 => ?_) (fun H locs uv4 ho hP => ?_)
    · subst ho
      obtain rfl := Option.some.inj h
      exact ve_out hF hP hk hxt e1 e2 e3 (by decide) (by decide)
    · subst ho
      rw [Sum.elim_inr] at h
      refine lv_aload_n hx hb dX5_run_53 rfl (lv_at hl 0 rfl) ?_
      refine vt_getR (r := 21) S hF hP (k := 6) (ci := 5) 0 (hlt _ (by decide)) rfl (by decide) rfl (by decide) rfl rfl (inC_X5 _) (List.mem_cons_of_mem _ fl_X5_46) dX5_run_54 ?_
      refine vt_getI S hF hP (k := 6) (ci := 4) 21 (hlt _ (by decide)) rfl (by decide) rfl (by decide) rfl (inC_X4 _) (List.mem_cons_of_mem _ fl_X5_271) dX5_run_57 ?_
      obtain rfl := Option.some.inj h
      exact ve_xi (v := (gI uv4 21 6)) S hF hP hr hk rfl (by decide) (by decide) dX5_run_60
  have hB39 : ∀ (w : Wo) (t0 : Int32), B_X5_run_39 w t0 = some r → ∀ (H : Heap) (locs : List Loc) (ls : Array Slot), St P s w H locs → lv_has ls 2 [(0, .ref (P.2.1 0))] → W p l e (rmU 7 1 (6 * 1)) s m args below meth c H locs 0 0 (XI P 1 r below args s) (F0 m 39 ls [.int t0]) := by
    intro w t0 h H locs ls hP hl
    unfold B_X5_run_39 at h
    refine lv_istore_n (lv' := [(1, .int t0), (0, .ref (P.2.1 0))]) hx hb dX5_run_39 rfl hl (by decide) rfl (fun ls hl => ?_)
    refine lv_iload_n hx hb dX5_run_40 rfl (lv_at hl 0 rfl) ?_
    refine lv_iconst (v := 1) hx hb dX5_run_41 (by decide) ?_
    refine lv_icmp_ne (tgt := 49) hx hb dX5_run_42 (by decide) (fun c7 => ?_) (fun c7 => ?_)
    · rw [if_neg c7] at h
      refine lv_iload_n hx hb dX5_run_49 rfl (lv_at hl 0 rfl) ?_
      exact hB50 _ _ h _ _ _ hP (lv_sub hl [1] rfl)
    · rw [if_pos c7] at h
      refine lv_iconst (v := 2) hx hb dX5_run_45 (by decide) ?_
      refine lv_goto (tgt := 50) hx hb dX5_run_46 (by decide) ?_
      exact hB50 _ _ h _ _ _ hP (lv_sub hl [1] rfl)
  have hB24 : ∀ (w : Wo), B_X5_run_24 w = some r → ∀ (H : Heap) (locs : List Loc) (ls : Array Slot), St P s w H locs → lv_has ls 2 [(0, .ref (P.2.1 0))] → W p l e (rmU 7 1 (6 * 1)) s m args below meth c H locs 0 0 (XI P 1 r below args s) (F0 m 24 ls []) := by
    intro w h H locs ls hP hl
    unfold B_X5_run_24 at h
    refine lv_aload_n hx hb dX5_run_24 rfl (lv_at hl 0 rfl) ?_
    refine vt_getI S hF hP (k := 9) (ci := 5) 0 (hlt _ (by decide)) rfl (by decide) rfl (by decide) rfl (inC_X5 _) (List.mem_cons_of_mem _ fl_X5_58) dX5_run_25 ?_
    refine lv_if_ge (tgt := 38) hx hb dX5_run_28 (by decide) (fun c8 => ?_) (fun c8 => ?_)
    · rw [if_pos c8] at h
      refine lv_iconst (v := 2) hx hb dX5_run_38 (by decide) ?_
      exact hB39 _ _ h _ _ _ hP (lv_sub hl [0] rfl)
    · rw [if_neg c8] at h
      refine lv_aload_n hx hb dX5_run_31 rfl (lv_at hl 0 rfl) ?_
      obtain ⟨q5, hq5, h⟩ := ob h
      refine vu_i hP (vu_V S hF hP (h := 0) (hlt _ (by decide)) rfl (by decide) rfl (c_X5_carryOutAll l P hA hn w hq5) ok_X5_carryOutAll ml_X5_268 ⟨Nat.le_of_ble_eq_true rfl, Nat.le_of_ble_eq_true rfl⟩ rfl hl.1 rfl (Nat.le_of_ble_eq_true rfl) dX5_run_32 ⟨Nat.le_of_ble_eq_true rfl, Nat.le_of_ble_eq_true rfl⟩) (fun H locs ho6 hP => ?_)
      refine lv_goto (tgt := 39) hx hb dX5_run_35 (by decide) ?_
      exact hB39 _ _ h _ _ _ hP (lv_sub hl [0] rfl)
  have hB19 : ∀ (w : Wo), B_X5_run_19 w = some r → ∀ (H : Heap) (locs : List Loc) (ls : Array Slot), St P s w H locs → lv_has ls 2 [(0, .ref (P.2.1 0))] → W p l e (rmU 7 1 (6 * 1)) s m args below meth c H locs 0 0 (XI P 1 r below args s) (F0 m 19 ls []) := by
    intro w h H locs ls hP hl
    unfold B_X5_run_19 at h
    refine lv_aload_n hx hb dX5_run_19 rfl (lv_at hl 0 rfl) ?_
    refine lv_iconst (v := 0) hx hb dX5_run_20 (by decide) ?_
    refine vt_putI S hF hP (k := 8) (ci := 5) 0 (hlt _ (by decide)) rfl (by decide) rfl (by decide) rfl tyX5 tyX5_ok nmX5 rfl rfl rfl rfl (by decide) (inC_X5 _) (List.mem_cons_of_mem _ fl_X5_54) dX5_run_21 (fun H locs hP => ?_)
    exact hB24 _ h _ _ _ hP (lv_sub hl [0] rfl)
  unfold F_X5_run at h
  refine lv_aload_n hx hb dX5_run_0 rfl (lv_at hl 0 rfl) ?_
  refine lv_aload_n hx hb dX5_run_1 rfl (lv_at hl 0 rfl) ?_
  refine vt_getR (r := 21) S hF hP (k := 6) (ci := 5) 0 (hlt _ (by decide)) rfl (by decide) rfl (by decide) rfl rfl (inC_X5 _) (List.mem_cons_of_mem _ fl_X5_46) dX5_run_2 ?_
  refine lv_aload_n hx hb dX5_run_5 rfl (lv_at hl 0 rfl) ?_
  refine vt_getR (r := 25) S hF hP (k := 7) (ci := 5) 0 (hlt _ (by decide)) rfl (by decide) rfl (by decide) rfl rfl (inC_X5 _) (List.mem_cons_of_mem _ fl_X5_50) dX5_run_6 ?_
  refine lv_aload_n hx hb dX5_run_9 rfl (lv_at hl 0 rfl) ?_
  refine vt_getI S hF hP (k := 8) (ci := 5) 0 (hlt _ (by decide)) rfl (by decide) rfl (by decide) rfl (inC_X5 _) (List.mem_cons_of_mem _ fl_X5_54) dX5_run_10 ?_
  obtain ⟨q1, hq1, h⟩ := ob h
  refine vu_i hP (vu_V S hF hP (h := 21) (hlt _ (by decide)) rfl (by decide) rfl (c_X4_read l P hA hn w (gI w 0 8) hq1) ok_X4_read ml_X5_264 ⟨Nat.le_of_ble_eq_true rfl, Nat.le_of_ble_eq_true rfl⟩ rfl hl.1 rfl (Nat.le_of_ble_eq_true rfl) dX5_run_13 ⟨Nat.le_of_ble_eq_true rfl, Nat.le_of_ble_eq_true rfl⟩) (fun H locs ho2 hP => ?_)
  refine vt_putI S hF hP (k := 9) (ci := 5) 0 (hlt _ (by decide)) rfl (by decide) rfl (by decide) rfl tyX5 tyX5_ok nmX5 rfl rfl rfl rfl (by decide) (inC_X5 _) (List.mem_cons_of_mem _ fl_X5_58) dX5_run_16 (fun H locs hP => ?_)
  exact hB19 _ h _ _ _ hP (lv_sub hl [0] rfl)
set_option maxRecDepth 100000 in
set_option maxHeartbeats 4000000 in
theorem c_X5_errorPosition (l : Launch) (P : Pl) (hA : Adr P) (hn : 26 ≤ P.2.2.2.1) (w : Wo) : CtI l P yX5_errorPosition cX5_errorPosition 1 (some .int) 0 [.ref (P.2.1 0)] w (F_X5_errorPosition w) w := by
  have hlt : ∀ h, h < 26 → h < P.2.2.2.1 := fun h q => Nat.lt_of_lt_of_le q hn
  obtain ⟨r, h⟩ : ∃ r, F_X5_errorPosition w = r := ⟨_, rfl⟩
  rw [h]
  refine vs_met hA (by decide +kernel) (Nat.le_of_ble_eq_true rfl) (fun p e s m args below meth c ls S hF hP hl hr hk => ?_)
  have hx := S.1
  have hb := S.2.1
  replace hl : lv_has ls 1 [(0, .ref (P.2.1 0))] := hl
  unfold F_X5_errorPosition at h
  refine lv_aload_n hx hb dX5_errorPosition_0 rfl (lv_at hl 0 rfl) ?_
  refine vt_getI S hF hP (k := 9) (ci := 5) 0 (hlt _ (by decide)) rfl (by decide) rfl (by decide) rfl (inC_X5 _) (List.mem_cons_of_mem _ fl_X5_58) dX5_errorPosition_1 ?_
  subst h
  exact ve_i (v := (gI w 0 9)) S hF hP hr hk rfl dX5_errorPosition_4
set_option maxRecDepth 100000 in
set_option maxHeartbeats 4000000 in
theorem c_X5_refusal (l : Launch) (P : Pl) (hA : Adr P) (hn : 26 ≤ P.2.2.2.1) (hst : l.stackTraces = false) (w : Wo) (x1 : Int32) {r : (Nat × Wo) ⊕ (Int32 × Wo)} (h : F_X5_refusal w x1 = some r) : CxI l P yX5_refusal cX5_refusal 2 (some .int) 6 1 [.ref (P.2.1 0), .int x1] w r := by
  have hlt : ∀ h, h < 26 → h < P.2.2.2.1 := fun h q => Nat.lt_of_lt_of_le q hn
  refine vs_vx hA (by decide +kernel) (Nat.le_of_ble_eq_true rfl) (fun p e s m args below meth c ls S hF hP hl hr hk hxt => ?_)
  have hx := S.1
  have hb := S.2.1
  replace hl : lv_has ls 2 [(0, .ref (P.2.1 0)), (1, .int x1)] := hl
  unfold F_X5_refusal at h
  refine lv_aload_n hx hb dX5_refusal_0 rfl (lv_at hl 0 rfl) ?_
  refine vt_getI S hF hP (k := 10) (ci := 5) 0 (hlt _ (by decide)) rfl (by decide) rfl (by decide) rfl (inC_X5 _) (List.mem_cons_of_mem _ fl_X5_61) dX5_refusal_1 ?_
  refine lv_if_ge (tgt := 18) hx hb dX5_refusal_4 (by decide) (fun c1 => ?_) (fun c1 => ?_)
  · rw [if_pos c1] at h
    refine lv_iload_n hx hb dX5_refusal_18 rfl (lv_at hl 1 rfl) ?_
    refine lv_if_eq (tgt := 29) hx hb dX5_refusal_19 (by decide) (fun c2 => ?_) (fun c2 => ?_)
    · rw [if_pos c2] at h
      refine lv_aload_n hx hb dX5_refusal_29 rfl (lv_at hl 0 rfl) ?_
      refine vt_getI S hF hP (k := 10) (ci := 5) 0 (hlt _ (by decide)) rfl (by decide) rfl (by decide) rfl (inC_X5 _) (List.mem_cons_of_mem _ fl_X5_61) dX5_refusal_30 ?_
      obtain rfl := Option.some.inj h
      exact ve_xi (v := (gI w 0 10)) S hF hP hr hk rfl (by decide) (by decide) dX5_refusal_33
    · rw [if_neg c2] at h
      refine lv_aload_n hx hb dX5_refusal_22 rfl (lv_at hl 0 rfl) ?_
      refine vt_getI S hF hP (k := 11) (ci := 5) 0 (hlt _ (by decide)) rfl (by decide) rfl (by decide) rfl (inC_X5 _) (List.mem_cons_of_mem _ fl_X5_64) dX5_refusal_23 ?_
      refine lv_goto (tgt := 33) hx hb dX5_refusal_26 (by decide) ?_
      obtain rfl := Option.some.inj h
      exact ve_xi (v := (gI w 0 11)) S hF hP hr hk rfl (by decide) (by decide) dX5_refusal_33
  · rw [if_neg c1] at h
    obtain rfl := Option.some.inj h
    exact ve_thr4W hst S hF hP (is := 273) (text := "nothing was refused") (by decide +kernel) hl.1 hk hxt dX5_refusal_7 dX5_refusal_10 dX5_refusal_11 dX5_refusal_14 dX5_refusal_17 ⟨Nat.le_of_ble_eq_true rfl, Nat.le_of_ble_eq_true rfl, Nat.le_of_ble_eq_true rfl, Nat.le_of_ble_eq_true rfl⟩ (by decide) (by decide)
set_option maxRecDepth 100000 in
set_option maxHeartbeats 4000000 in
theorem c_X5_account (l : Launch) (P : Pl) (hA : Adr P) (hn : 26 ≤ P.2.2.2.1) (hst : l.stackTraces = false) (w : Wo) (x1 : Int32) {r : (Nat × Wo) ⊕ (Int32 × Wo)} (h : F_X5_account w x1 = some r) : CxI l P yX5_account cX5_account 2 (some .int) 6 1 [.ref (P.2.1 0), .int x1] w r := by
  have hlt : ∀ h, h < 26 → h < P.2.2.2.1 := fun h q => Nat.lt_of_lt_of_le q hn
  refine vs_vx hA (by decide +kernel) (Nat.le_of_ble_eq_true rfl) (fun p e s m args below meth c ls S hF hP hl hr hk hxt => ?_)
  have hx := S.1
  have hb := S.2.1
  replace hl : lv_has ls 2 [(0, .ref (P.2.1 0)), (1, .int x1)] := hl
  unfold F_X5_account at h
  refine lv_iload_n hx hb dX5_account_0 rfl (lv_at hl 1 rfl) ?_
  by_cases c3 : x1 = 0
  · rw [if_pos c3] at h
    refine lv_tableIn (off := 55) (tgt := 56) hx hb dX5_account_1 (by rw [c3]; decide) (by rw [c3]; decide) (by rw [c3]; rfl) (by decide) ?_
    refine lv_aload_n hx hb dX5_account_56 rfl (lv_at hl 0 rfl) ?_
    refine vt_getR (r := 1) S hF hP (k := 0) (ci := 5) 0 (hlt _ (by decide)) rfl (by decide) rfl (by decide) rfl rfl (inC_X5 _) (List.mem_cons_of_mem _ fl_X5_12) dX5_account_57 ?_
    refine vu_i hP (vu_V S hF hP (h := 1) (hlt _ (by decide)) rfl (by decide) rfl (c_X0_places l P hA hn w) ok_X0_places ml_X5_79 ⟨Nat.le_of_ble_eq_true rfl, Nat.le_of_ble_eq_true rfl⟩ rfl hl.1 rfl (Nat.le_of_ble_eq_true rfl) dX5_account_60 ⟨Nat.le_of_ble_eq_true rfl, Nat.le_of_ble_eq_true rfl⟩) (fun H locs ho1 hP => ?_)
    obtain rfl := Option.some.inj h
    exact ve_xi (v := (F_X0_places w)) S hF hP hr hk rfl (by decide) (by decide) dX5_account_63
  rw [if_neg c3] at h
  by_cases c4 : x1 = 1
  · rw [if_pos c4] at h
    refine lv_tableIn (off := 63) (tgt := 64) hx hb dX5_account_1 (by rw [c4]; decide) (by rw [c4]; decide) (by rw [c4]; rfl) (by decide) ?_
    refine lv_aload_n hx hb dX5_account_64 rfl (lv_at hl 0 rfl) ?_
    refine vt_getR (r := 1) S hF hP (k := 0) (ci := 5) 0 (hlt _ (by decide)) rfl (by decide) rfl (by decide) rfl rfl (inC_X5 _) (List.mem_cons_of_mem _ fl_X5_12) dX5_account_65 ?_
    refine vu_i hP (vu_V S hF hP (h := 1) (hlt _ (by decide)) rfl (by decide) rfl (c_X0_barredLines l P hA hn w) ok_X0_barredLines ml_X5_162 ⟨Nat.le_of_ble_eq_true rfl, Nat.le_of_ble_eq_true rfl⟩ rfl hl.1 rfl (Nat.le_of_ble_eq_true rfl) dX5_account_68 ⟨Nat.le_of_ble_eq_true rfl, Nat.le_of_ble_eq_true rfl⟩) (fun H locs ho2 hP => ?_)
    obtain rfl := Option.some.inj h
    exact ve_xi (v := (F_X0_barredLines w)) S hF hP hr hk rfl (by decide) (by decide) dX5_account_71
  rw [if_neg c4] at h
  by_cases c5 : x1 = 2
  · rw [if_pos c5] at h
    refine lv_tableIn (off := 71) (tgt := 72) hx hb dX5_account_1 (by rw [c5]; decide) (by rw [c5]; decide) (by rw [c5]; rfl) (by decide) ?_
    refine lv_aload_n hx hb dX5_account_72 rfl (lv_at hl 0 rfl) ?_
    refine vt_getR (r := 1) S hF hP (k := 0) (ci := 5) 0 (hlt _ (by decide)) rfl (by decide) rfl (by decide) rfl rfl (inC_X5 _) (List.mem_cons_of_mem _ fl_X5_12) dX5_account_73 ?_
    refine vt_getI S hF hP (k := 5) (ci := 0) 1 (hlt _ (by decide)) rfl (by decide) rfl (by decide) rfl (inC_X0 _) (List.mem_cons_of_mem _ fl_X5_110) dX5_account_76 ?_
    obtain rfl := Option.some.inj h
    exact ve_xi (v := (gI w 1 5)) S hF hP hr hk rfl (by decide) (by decide) dX5_account_79
  rw [if_neg c5] at h
  by_cases c6 : x1 = 3
  · rw [if_pos c6] at h
    refine lv_tableIn (off := 79) (tgt := 80) hx hb dX5_account_1 (by rw [c6]; decide) (by rw [c6]; decide) (by rw [c6]; rfl) (by decide) ?_
    refine lv_aload_n hx hb dX5_account_80 rfl (lv_at hl 0 rfl) ?_
    refine vt_getR (r := 1) S hF hP (k := 0) (ci := 5) 0 (hlt _ (by decide)) rfl (by decide) rfl (by decide) rfl rfl (inC_X5 _) (List.mem_cons_of_mem _ fl_X5_12) dX5_account_81 ?_
    refine vt_getI S hF hP (k := 6) (ci := 0) 1 (hlt _ (by decide)) rfl (by decide) rfl (by decide) rfl (inC_X0 _) (List.mem_cons_of_mem _ fl_X5_275) dX5_account_84 ?_
    obtain rfl := Option.some.inj h
    exact ve_xi (v := (gI w 1 6)) S hF hP hr hk rfl (by decide) (by decide) dX5_account_87
  rw [if_neg c6] at h
  by_cases c7 : x1 = 4
  · rw [if_pos c7] at h
    refine lv_tableIn (off := 87) (tgt := 88) hx hb dX5_account_1 (by rw [c7]; decide) (by rw [c7]; decide) (by rw [c7]; rfl) (by decide) ?_
    refine lv_aload_n hx hb dX5_account_88 rfl (lv_at hl 0 rfl) ?_
    refine vt_getR (r := 1) S hF hP (k := 0) (ci := 5) 0 (hlt _ (by decide)) rfl (by decide) rfl (by decide) rfl rfl (inC_X5 _) (List.mem_cons_of_mem _ fl_X5_12) dX5_account_89 ?_
    refine vt_getI S hF hP (k := 7) (ci := 0) 1 (hlt _ (by decide)) rfl (by decide) rfl (by decide) rfl (inC_X0 _) (List.mem_cons_of_mem _ fl_X5_278) dX5_account_92 ?_
    obtain rfl := Option.some.inj h
    exact ve_xi (v := (gI w 1 7)) S hF hP hr hk rfl (by decide) (by decide) dX5_account_95
  rw [if_neg c7] at h
  by_cases c8 : x1 = 5
  · rw [if_pos c8] at h
    refine lv_tableIn (off := 95) (tgt := 96) hx hb dX5_account_1 (by rw [c8]; decide) (by rw [c8]; decide) (by rw [c8]; rfl) (by decide) ?_
    refine lv_aload_n hx hb dX5_account_96 rfl (lv_at hl 0 rfl) ?_
    refine vt_getR (r := 1) S hF hP (k := 0) (ci := 5) 0 (hlt _ (by decide)) rfl (by decide) rfl (by decide) rfl rfl (inC_X5 _) (List.mem_cons_of_mem _ fl_X5_12) dX5_account_97 ?_
    refine vt_getI S hF hP (k := 8) (ci := 0) 1 (hlt _ (by decide)) rfl (by decide) rfl (by decide) rfl (inC_X0 _) (List.mem_cons_of_mem _ fl_X5_137) dX5_account_100 ?_
    obtain rfl := Option.some.inj h
    exact ve_xi (v := (gI w 1 8)) S hF hP hr hk rfl (by decide) (by decide) dX5_account_103
  rw [if_neg c8] at h
  by_cases c9 : x1 = 6
  · rw [if_pos c9] at h
    refine lv_tableIn (off := 103) (tgt := 104) hx hb dX5_account_1 (by rw [c9]; decide) (by rw [c9]; decide) (by rw [c9]; rfl) (by decide) ?_
    refine lv_aload_n hx hb dX5_account_104 rfl (lv_at hl 0 rfl) ?_
    refine vt_getR (r := 1) S hF hP (k := 0) (ci := 5) 0 (hlt _ (by decide)) rfl (by decide) rfl (by decide) rfl rfl (inC_X5 _) (List.mem_cons_of_mem _ fl_X5_12) dX5_account_105 ?_
    refine vt_getI S hF hP (k := 9) (ci := 0) 1 (hlt _ (by decide)) rfl (by decide) rfl (by decide) rfl (inC_X0 _) (List.mem_cons_of_mem _ fl_X5_281) dX5_account_108 ?_
    obtain rfl := Option.some.inj h
    exact ve_xi (v := (gI w 1 9)) S hF hP hr hk rfl (by decide) (by decide) dX5_account_111
  rw [if_neg c9] at h
  by_cases c10 : x1 = 7
  · rw [if_pos c10] at h
    refine lv_tableIn (off := 111) (tgt := 112) hx hb dX5_account_1 (by rw [c10]; decide) (by rw [c10]; decide) (by rw [c10]; rfl) (by decide) ?_
    refine lv_aload_n hx hb dX5_account_112 rfl (lv_at hl 0 rfl) ?_
    refine vt_getR (r := 1) S hF hP (k := 0) (ci := 5) 0 (hlt _ (by decide)) rfl (by decide) rfl (by decide) rfl rfl (inC_X5 _) (List.mem_cons_of_mem _ fl_X5_12) dX5_account_113 ?_
    refine vt_getI S hF hP (k := 10) (ci := 0) 1 (hlt _ (by decide)) rfl (by decide) rfl (by decide) rfl (inC_X0 _) (List.mem_cons_of_mem _ fl_X5_284) dX5_account_116 ?_
    obtain rfl := Option.some.inj h
    exact ve_xi (v := (gI w 1 10)) S hF hP hr hk rfl (by decide) (by decide) dX5_account_119
  rw [if_neg c10] at h
  by_cases c11 : x1 = 8
  · rw [if_pos c11] at h
    refine lv_tableIn (off := 119) (tgt := 120) hx hb dX5_account_1 (by rw [c11]; decide) (by rw [c11]; decide) (by rw [c11]; rfl) (by decide) ?_
    refine lv_aload_n hx hb dX5_account_120 rfl (lv_at hl 0 rfl) ?_
    refine vt_getI S hF hP (k := 8) (ci := 5) 0 (hlt _ (by decide)) rfl (by decide) rfl (by decide) rfl (inC_X5 _) (List.mem_cons_of_mem _ fl_X5_54) dX5_account_121 ?_
    obtain rfl := Option.some.inj h
    exact ve_xi (v := (gI w 0 8)) S hF hP hr hk rfl (by decide) (by decide) dX5_account_124
  rw [if_neg c11] at h
  by_cases c12 : x1 = 9
  · rw [if_pos c12] at h
    refine lv_tableIn (off := 124) (tgt := 125) hx hb dX5_account_1 (by rw [c12]; decide) (by rw [c12]; decide) (by rw [c12]; rfl) (by decide) ?_
    refine lv_aload_n hx hb dX5_account_125 rfl (lv_at hl 0 rfl) ?_
    refine vt_getR (r := 4) S hF hP (k := 3) (ci := 5) 0 (hlt _ (by decide)) rfl (by decide) rfl (by decide) rfl rfl (inC_X5 _) (List.mem_cons_of_mem _ fl_X5_25) dX5_account_126 ?_
    refine vt_getI S hF hP (k := 2) (ci := 2) 4 (hlt _ (by decide)) rfl (by decide) rfl (by decide) rfl (inC_X2 _) (List.mem_cons_of_mem _ fl_X5_287) dX5_account_129 ?_
    obtain rfl := Option.some.inj h
    exact ve_xi (v := (gI w 4 2)) S hF hP hr hk rfl (by decide) (by decide) dX5_account_132
  rw [if_neg c12] at h
  refine lv_tableOut (tgt := 133) hx hb dX5_account_1 (sw_out (fun i i1 i2 => ?_)) (by decide) ?_
  · have i3 : i = 0 ∨ i = 1 ∨ i = 2 ∨ i = 3 ∨ i = 4 ∨ i = 5 ∨ i = 6 ∨ i = 7 ∨ i = 8 ∨ i = 9 := by omega
    rcases i3 with rfl | rfl | rfl | rfl | rfl | rfl | rfl | rfl | rfl | rfl
    · exact c3
    · exact c4
    · exact c5
    · exact c6
    · exact c7
    · exact c8
    · exact c9
    · exact c10
    · exact c11
    · exact c12
  obtain rfl := Option.some.inj h
  exact ve_thrW hst S hF hP (fun _ z => List.mem_cons_of_mem _ z) (is := 288) (text := "what is not from 0 to 9") rfl th_174_178.1 th_174_178.2.1 th_174_178.2.2.1 (by decide +kernel) th_174_178.2.2.2.1 th_174_178.2.2.2.2 hl.1 hk hxt dX5_account_133 dX5_account_136 dX5_account_137 dX5_account_140 dX5_account_143 ⟨Nat.le_of_ble_eq_true rfl, Nat.le_of_ble_eq_true rfl, Nat.le_of_ble_eq_true rfl, Nat.le_of_ble_eq_true rfl⟩ (by decide) (by decide)
set_option maxRecDepth 100000 in
set_option maxHeartbeats 4000000 in
theorem c_X0_areTurnsTakenBack (l : Launch) (P : Pl) (hA : Adr P) (hn : 26 ≤ P.2.2.2.1) (w : Wo) {r : Int32} (h : F_X0_areTurnsTakenBack w = some r) : CtI l P yX0_areTurnsTakenBack cX0_areTurnsTakenBack 2 (some .boolean) 2 [.ref (P.2.1 1)] w r w := by
  have hlt : ∀ h, h < 26 → h < P.2.2.2.1 := fun h q => Nat.lt_of_lt_of_le q hn
  refine vs_met hA (by decide +kernel) (Nat.le_of_ble_eq_true rfl) (fun p e s m args below meth c ls S hF hP hl hr hk => ?_)
  have hx := S.1
  have hb := S.2.1
  replace hl : lv_has ls 2 [(0, .ref (P.2.1 1))] := hl
  have hL2 : ∀ (n : Nat) (x1 : Int32), jl1 (B_X0_areTurnsTakenBack_2 w) n x1 = some r → ∀ (H : Heap) (locs : List Loc) (ls : Array Slot), St P s w H locs → lv_has ls 2 [(0, .ref (P.2.1 1)), (1, .int x1)] → W p l e (rmU 2 0 0) s m args below meth c H locs 0 0 (QI P (some .boolean) r w below args s) (F0 m 2 ls []) := by
    intro n
    induction n with
    | zero =>
      intro x1 h
      cases h
    | succ n ih2 =>
      intro x1 h H locs ls hP hl
      replace h : B_X0_areTurnsTakenBack_2 w (jl1 (B_X0_areTurnsTakenBack_2 w) n) x1 = some r := h
      revert h ih2
      generalize jl1 (B_X0_areTurnsTakenBack_2 w) n = k2
      intro ih2 h
      unfold B_X0_areTurnsTakenBack_2 at h
      refine lv_iload_n hx hb dX0_areTurnsTakenBack_2 rfl (lv_at hl 1 rfl) ?_
      refine lv_aload_n hx hb dX0_areTurnsTakenBack_3 rfl (lv_at hl 0 rfl) ?_
      refine vu_i hP (vu_V S hF hP (h := 1) (hlt _ (by decide)) rfl (by decide) rfl (c_X0_turns l P hA hn w) ok_X0_turns ml_X0_57 ⟨Nat.le_of_ble_eq_true rfl, Nat.le_of_ble_eq_true rfl⟩ rfl hl.1 rfl (Nat.le_of_ble_eq_true rfl) dX0_areTurnsTakenBack_4 ⟨Nat.le_of_ble_eq_true rfl, Nat.le_of_ble_eq_true rfl⟩) (fun H locs ho1 hP => ?_)
      refine lv_icmp_ge (tgt := 42) hx hb dX0_areTurnsTakenBack_7 (by decide) (fun c4 => ?_) (fun c4 => ?_)
      · rw [if_pos c4] at h
        refine lv_iconst (v := 1) hx hb dX0_areTurnsTakenBack_42 (by decide) ?_
        obtain rfl := Option.some.inj h
        exact ve_i (v := 1) S hF hP hr hk rfl dX0_areTurnsTakenBack_43
      · rw [if_neg c4] at h
        refine lv_aload_n hx hb dX0_areTurnsTakenBack_10 rfl (lv_at hl 0 rfl) ?_
        refine lv_aload_n hx hb dX0_areTurnsTakenBack_11 rfl (lv_at hl 0 rfl) ?_
        refine lv_aload_n hx hb dX0_areTurnsTakenBack_12 rfl (lv_at hl 0 rfl) ?_
        refine vt_getL S hF hP (k := 2) (ci := 0) 1 (hlt _ (by decide)) rfl (by decide) rfl (by decide) rfl (inC_X0 _) (List.mem_cons_of_mem _ fl_X0_18) dX0_areTurnsTakenBack_13 ?_
        refine lv_iload_n hx hb dX0_areTurnsTakenBack_16 rfl (lv_at hl 1 rfl) ?_
        obtain ⟨q2, hq2, h⟩ := ob h
        refine vu_l hP (vu_V S hF hP (h := 1) (hlt _ (by decide)) rfl (by decide) rfl (c_X0_turned l P hA hn w (gL w 1 2) x1 hq2) ok_X0_turned ml_X0_86 ⟨Nat.le_of_ble_eq_true rfl, Nat.le_of_ble_eq_true rfl⟩ rfl hl.1 rfl (Nat.le_of_ble_eq_true rfl) dX0_areTurnsTakenBack_17 ⟨Nat.le_of_ble_eq_true rfl, Nat.le_of_ble_eq_true rfl⟩) (fun H locs hP => ?_)
        refine lv_iload_n hx hb dX0_areTurnsTakenBack_20 rfl (lv_at hl 1 rfl) ?_
        refine lv_iconst (v := 1) hx hb dX0_areTurnsTakenBack_21 (by decide) ?_
        refine lv_ixor hx hb dX0_areTurnsTakenBack_22 ?_
        obtain ⟨q3, hq3, h⟩ := ob h
        refine vu_l hP (vu_V S hF hP (h := 1) (hlt _ (by decide)) rfl (by decide) rfl (c_X0_turned l P hA hn w q2 (x1 ^^^ (1 : Int32)) hq3) ok_X0_turned ml_X0_86 ⟨Nat.le_of_ble_eq_true rfl, Nat.le_of_ble_eq_true rfl⟩ rfl hl.1 rfl (Nat.le_of_ble_eq_true rfl) dX0_areTurnsTakenBack_23 ⟨Nat.le_of_ble_eq_true rfl, Nat.le_of_ble_eq_true rfl⟩) (fun H locs hP => ?_)
        refine lv_aload_n hx hb dX0_areTurnsTakenBack_26 rfl (lv_at hl 0 rfl) ?_
        refine vt_getL S hF hP (k := 2) (ci := 0) 1 (hlt _ (by decide)) rfl (by decide) rfl (by decide) rfl (inC_X0 _) (List.mem_cons_of_mem _ fl_X0_18) dX0_areTurnsTakenBack_27 ?_
        refine W.lcmp hx hb dX0_areTurnsTakenBack_30 ?_
        refine lv_if_eq (tgt := 36) hx hb dX0_areTurnsTakenBack_31 (by decide) (fun c5 => ?_) (fun c5 => ?_)
        · rw [if_pos c5] at h
          refine lv_iinc (v := (x1 + 1)) (lv' := [(1, .int (x1 + 1)), (0, .ref (P.2.1 1))]) hx hb dX0_areTurnsTakenBack_36 hl (k := 1) rfl rfl (by decide) rfl (fun ls hl => ?_)
          refine lv_goto (tgt := 2) hx hb dX0_areTurnsTakenBack_39 (by decide) ?_
          exact ih2 _ h _ _ _ hP (lv_sub hl [1, 0] rfl)
        · rw [if_neg c5] at h
          refine lv_iconst (v := 0) hx hb dX0_areTurnsTakenBack_34 (by decide) ?_
          obtain rfl := Option.some.inj h
          exact ve_i (v := 0) S hF hP hr hk rfl dX0_areTurnsTakenBack_35
  unfold F_X0_areTurnsTakenBack at h
  refine lv_iconst (v := 0) hx hb dX0_areTurnsTakenBack_0 (by decide) ?_
  refine lv_istore_n (lv' := [(1, .int 0), (0, .ref (P.2.1 1))]) hx hb dX0_areTurnsTakenBack_1 rfl hl (by decide) rfl (fun ls hl => ?_)
  exact hL2 fu _ h _ _ _ hP (lv_sub hl [1, 0] rfl)
set_option maxRecDepth 100000 in
set_option maxHeartbeats 4000000 in
theorem c_X5_isWell (l : Launch) (P : Pl) (hA : Adr P) (hn : 26 ≤ P.2.2.2.1) (w : Wo) {r : Int32 × Wo} (h : F_X5_isWell w = some r) : CtI l P yX5_isWell cX5_isWell 2 (some .boolean) 15 [.ref (P.2.1 0)] w r.1 r.2 := by
  have hlt : ∀ h, h < 26 → h < P.2.2.2.1 := fun h q => Nat.lt_of_lt_of_le q hn
  refine vs_met hA (by decide +kernel) (Nat.le_of_ble_eq_true rfl) (fun p e s m args below meth c ls S hF hP hl hr hk => ?_)
  have hx := S.1
  have hb := S.2.1
  replace hl : lv_has ls 2 [(0, .ref (P.2.1 0))] := hl
  have hB73 : ∀ (w : Wo), B_X5_isWell_73 w = some r → ∀ (H : Heap) (locs : List Loc) (ls : Array Slot), St P s w H locs → lv_has ls 2 [(0, .ref (P.2.1 0))] → W p l e (rmU 15 0 0) s m args below meth c H locs 0 0 (QI P (some .boolean) r.1 r.2 below args s) (F0 m 73 ls []) := by
    intro w h H locs ls hP hl
    unfold B_X5_isWell_73 at h
    refine lv_aload_n hx hb dX5_isWell_73 rfl (lv_at hl 0 rfl) ?_
    refine vt_getR (r := 1) S hF hP (k := 0) (ci := 5) 0 (hlt _ (by decide)) rfl (by decide) rfl (by decide) rfl rfl (inC_X5 _) (List.mem_cons_of_mem _ fl_X5_12) dX5_isWell_74 ?_
    obtain ⟨q7, hq7, h⟩ := ob h
    refine vu_i hP (vu_V S hF hP (h := 1) (hlt _ (by decide)) rfl (by decide) rfl (c_X0_areTurnsTakenBack l P hA hn w hq7) ok_X0_areTurnsTakenBack ml_X5_290 ⟨Nat.le_of_ble_eq_true rfl, Nat.le_of_ble_eq_true rfl⟩ rfl hl.1 rfl (Nat.le_of_ble_eq_true rfl) dX5_isWell_77 ⟨Nat.le_of_ble_eq_true rfl, Nat.le_of_ble_eq_true rfl⟩) (fun H locs ho8 hP => ?_)
    obtain rfl := Option.some.inj h
    exact ve_i (v := q7) S hF hP hr hk ho8 dX5_isWell_80
  have hB30 : ∀ (w : Wo), B_X5_isWell_30 w = some r → ∀ (H : Heap) (locs : List Loc) (ls : Array Slot), St P s w H locs → lv_has ls 2 [(0, .ref (P.2.1 0))] → W p l e (rmU 15 0 0) s m args below meth c H locs 0 0 (QI P (some .boolean) r.1 r.2 below args s) (F0 m 30 ls []) := by
    intro w h H locs ls hP hl
    unfold B_X5_isWell_30 at h
    refine lv_aload_n hx hb dX5_isWell_30 rfl (lv_at hl 0 rfl) ?_
    refine vt_getR (r := 1) S hF hP (k := 0) (ci := 5) 0 (hlt _ (by decide)) rfl (by decide) rfl (by decide) rfl rfl (inC_X5 _) (List.mem_cons_of_mem _ fl_X5_12) dX5_isWell_31 ?_
    obtain ⟨q5, hq5, h⟩ := ob h
    refine vu_i hP (vu_V S hF hP (h := 1) (hlt _ (by decide)) rfl (by decide) rfl (c_X0_hasSameLetters l P hA hn w hq5) ok_X0_hasSameLetters ml_X5_191 ⟨Nat.le_of_ble_eq_true rfl, Nat.le_of_ble_eq_true rfl⟩ rfl hl.1 rfl (Nat.le_of_ble_eq_true rfl) dX5_isWell_34 ⟨Nat.le_of_ble_eq_true rfl, Nat.le_of_ble_eq_true rfl⟩) (fun H locs ho6 hP => ?_)
    refine lv_if_eq (tgt := 73) hx hb dX5_isWell_37 (by decide) (fun c15 => ?_) (fun c15 => ?_)
    · rw [if_pos c15] at h
      exact hB73 _ h _ _ _ hP (lv_sub hl [0] rfl)
    · rw [if_neg c15] at h
      refine lv_aload_n hx hb dX5_isWell_40 rfl (lv_at hl 0 rfl) ?_
      refine vt_getR (r := 1) S hF hP (k := 0) (ci := 5) 0 (hlt _ (by decide)) rfl (by decide) rfl (by decide) rfl rfl (inC_X5 _) (List.mem_cons_of_mem _ fl_X5_12) dX5_isWell_41 ?_
      refine lv_aload_n hx hb dX5_isWell_44 rfl (lv_at hl 0 rfl) ?_
      refine vt_getR (r := 1) S hF hP (k := 0) (ci := 5) 0 (hlt _ (by decide)) rfl (by decide) rfl (by decide) rfl rfl (inC_X5 _) (List.mem_cons_of_mem _ fl_X5_12) dX5_isWell_45 ?_
      refine vt_getL S hF hP (k := 3) (ci := 0) 1 (hlt _ (by decide)) rfl (by decide) rfl (by decide) rfl (inC_X0 _) (List.mem_cons_of_mem _ fl_X5_99) dX5_isWell_48 ?_
      obtain ⟨q9, hq9, h⟩ := ob h
      refine vu_i hP (vu_V S hF hP (h := 1) (hlt _ (by decide)) rfl (by decide) rfl (c_X0_isOddByCycles l P hA hn w (gL w 1 3) hq9) ok_X0_isOddByCycles ml_X5_200 ⟨Nat.le_of_ble_eq_true rfl, Nat.le_of_ble_eq_true rfl⟩ rfl hl.1 rfl (Nat.le_of_ble_eq_true rfl) dX5_isWell_51 ⟨Nat.le_of_ble_eq_true rfl, Nat.le_of_ble_eq_true rfl⟩) (fun H locs ho10 hP => ?_)
      refine lv_aload_n hx hb dX5_isWell_54 rfl (lv_at hl 0 rfl) ?_
      refine vt_getR (r := 1) S hF hP (k := 0) (ci := 5) 0 (hlt _ (by decide)) rfl (by decide) rfl (by decide) rfl rfl (inC_X5 _) (List.mem_cons_of_mem _ fl_X5_12) dX5_isWell_55 ?_
      refine lv_aload_n hx hb dX5_isWell_58 rfl (lv_at hl 0 rfl) ?_
      refine vt_getR (r := 1) S hF hP (k := 0) (ci := 5) 0 (hlt _ (by decide)) rfl (by decide) rfl (by decide) rfl rfl (inC_X5 _) (List.mem_cons_of_mem _ fl_X5_12) dX5_isWell_59 ?_
      refine vt_getL S hF hP (k := 3) (ci := 0) 1 (hlt _ (by decide)) rfl (by decide) rfl (by decide) rfl (inC_X0 _) (List.mem_cons_of_mem _ fl_X5_99) dX5_isWell_62 ?_
      obtain ⟨q11, hq11, h⟩ := ob h
      refine vu_i hP (vu_V S hF hP (h := 1) (hlt _ (by decide)) rfl (by decide) rfl (c_X0_isOddByPairs l P hA hn w (gL w 1 3) hq11) ok_X0_isOddByPairs ml_X5_196 ⟨Nat.le_of_ble_eq_true rfl, Nat.le_of_ble_eq_true rfl⟩ rfl hl.1 rfl (Nat.le_of_ble_eq_true rfl) dX5_isWell_65 ⟨Nat.le_of_ble_eq_true rfl, Nat.le_of_ble_eq_true rfl⟩) (fun H locs ho12 hP => ?_)
      refine lv_icmp_eq (tgt := 73) hx hb dX5_isWell_68 (by decide) (fun c16 => ?_) (fun c16 => ?_)
      · rw [if_pos c16] at h
        exact hB73 _ h _ _ _ hP (lv_sub hl [0] rfl)
      · rw [if_neg c16] at h
        refine lv_iconst (v := 0) hx hb dX5_isWell_71 (by decide) ?_
        obtain rfl := Option.some.inj h
        exact ve_i (v := 0) S hF hP hr hk rfl dX5_isWell_72
  unfold F_X5_isWell at h
  refine lv_aload_n hx hb dX5_isWell_0 rfl (lv_at hl 0 rfl) ?_
  obtain ⟨q1, hq1, h⟩ := ob h
  refine vu_i hP (vu_V S hF hP (h := 0) (hlt _ (by decide)) rfl (by decide) rfl (c_X5_fewestByHalves l P hA hn w hq1) ok_X5_fewestByHalves ml_X5_182 ⟨Nat.le_of_ble_eq_true rfl, Nat.le_of_ble_eq_true rfl⟩ rfl hl.1 rfl (Nat.le_of_ble_eq_true rfl) dX5_isWell_1 ⟨Nat.le_of_ble_eq_true rfl, Nat.le_of_ble_eq_true rfl⟩) (fun H locs ho2 hP => ?_)
  refine lv_istore_n (lv' := [(1, .int q1.1), (0, .ref (P.2.1 0))]) hx hb dX5_isWell_4 rfl hl (by decide) rfl (fun ls hl => ?_)
  refine lv_iload_n hx hb dX5_isWell_5 rfl (lv_at hl 0 rfl) ?_
  refine lv_aload_n hx hb dX5_isWell_6 rfl (lv_at hl 1 rfl) ?_
  obtain ⟨q3, hq3, h⟩ := ob h
  refine vu_i hP (vu_V S hF hP (h := 0) (hlt _ (by decide)) rfl (by decide) rfl (c_X5_fewestByAll l P hA hn q1.2 hq3) ok_X5_fewestByAll ml_X5_179 ⟨Nat.le_of_ble_eq_true rfl, Nat.le_of_ble_eq_true rfl⟩ rfl hl.1 rfl (Nat.le_of_ble_eq_true rfl) dX5_isWell_7 ⟨Nat.le_of_ble_eq_true rfl, Nat.le_of_ble_eq_true rfl⟩) (fun H locs ho4 hP => ?_)
  refine lv_icmp_ne (tgt := 28) hx hb dX5_isWell_10 (by decide) (fun c17 => ?_) (fun c17 => ?_)
  · rw [if_neg c17] at h
    refine lv_iconst (v := 0) hx hb dX5_isWell_28 (by decide) ?_
    obtain rfl := Option.some.inj h
    exact ve_i (v := 0) S hF hP hr hk rfl dX5_isWell_29
  · rw [if_pos c17] at h
    refine lv_iload_n hx hb dX5_isWell_13 rfl (lv_at hl 0 rfl) ?_
    refine lv_iconst (v := 3) hx hb dX5_isWell_14 (by decide) ?_
    refine lv_icmp_gt (tgt := 30) hx hb dX5_isWell_15 (by decide) (fun c18 => ?_) (fun c18 => ?_)
    · rw [if_pos c18] at h
      exact hB30 _ h _ _ _ hP (lv_sub hl [1] rfl)
    · rw [if_neg c18] at h
      refine lv_aload_n hx hb dX5_isWell_18 rfl (lv_at hl 1 rfl) ?_
      refine vt_getR (r := 1) S hF hP (k := 0) (ci := 5) 0 (hlt _ (by decide)) rfl (by decide) rfl (by decide) rfl rfl (inC_X5 _) (List.mem_cons_of_mem _ fl_X5_12) dX5_isWell_19 ?_
      obtain ⟨q13, hq13, h⟩ := ob h
      refine vu_i hP (vu_V S hF hP (h := 1) (hlt _ (by decide)) rfl (by decide) rfl (c_X0_isBeyondReach l P hA hn q1.2 hq13) ok_X0_isBeyondReach ml_X5_187 ⟨Nat.le_of_ble_eq_true rfl, Nat.le_of_ble_eq_true rfl⟩ rfl hl.1 rfl (Nat.le_of_ble_eq_true rfl) dX5_isWell_22 ⟨Nat.le_of_ble_eq_true rfl, Nat.le_of_ble_eq_true rfl⟩) (fun H locs ho14 hP => ?_)
      refine lv_if_eq (tgt := 30) hx hb dX5_isWell_25 (by decide) (fun c19 => ?_) (fun c19 => ?_)
      · rw [if_pos c19] at h
        exact hB30 _ h _ _ _ hP (lv_sub hl [1] rfl)
      · rw [if_neg c19] at h
        refine lv_iconst (v := 0) hx hb dX5_isWell_28 (by decide) ?_
        obtain rfl := Option.some.inj h
        exact ve_i (v := 0) S hF hP hr hk rfl dX5_isWell_29
set_option maxRecDepth 100000 in
set_option maxHeartbeats 4000000 in
theorem c_X5_meanFar (l : Launch) (P : Pl) (hA : Adr P) (hn : 26 ≤ P.2.2.2.1) (hst : l.stackTraces = false) (w : Wo) {r : (Nat × Wo) ⊕ (UInt64 × Wo)} (h : F_X5_meanFar w = some r) : CxD l P yX5_meanFar cX5_meanFar 5 (some .double) 6 1 [.ref (P.2.1 0)] w r := by
  have hlt : ∀ h, h < 26 → h < P.2.2.2.1 := fun h q => Nat.lt_of_lt_of_le q hn
  refine vs_vx hA (by decide +kernel) (Nat.le_of_ble_eq_true rfl) (fun p e s m args below meth c ls S hF hP hl hr hk hxt => ?_)
  have hx := S.1
  have hb := S.2.1
  replace hl : lv_has ls 5 [(0, .ref (P.2.1 0))] := hl
  have hB86 : ∀ (w : Wo) (x1 : Int32) (x2 : Int32), B_X5_meanFar_86 w x1 x2 = some r → ∀ (H : Heap) (locs : List Loc) (ls : Array Slot), St P s w H locs → lv_has ls 5 [(1, .int x1), (2, .int x2)] → W p l e (rmU 6 1 (6 * 1)) s m args below meth c H locs 0 0 (XD P 1 r below args s) (F0 m 86 ls []) := by
    intro w x1 x2 h H locs ls hP hl
    unfold B_X5_meanFar_86 at h
    refine lv_iload_n hx hb dX5_meanFar_86 rfl (lv_at hl 0 rfl) ?_
    refine lv_if_ne (tgt := 101) hx hb dX5_meanFar_87 (by decide) (fun c9 => ?_) (fun c9 => ?_)
    · rw [if_neg c9] at h
      refine lv_iload_n hx hb dX5_meanFar_101 rfl (lv_at hl 1 rfl) ?_
      refine lv_i2d hx hb dX5_meanFar_102 ?_
      refine lv_iload_n hx hb dX5_meanFar_103 rfl (lv_at hl 0 rfl) ?_
      refine lv_i2d hx hb dX5_meanFar_104 ?_
      obtain ⟨c10, h⟩ := chk h
      refine lv_ddiv hx hb dX5_meanFar_105 c10 ?_
      obtain rfl := Option.some.inj h
      exact ve_xd S hF hP hr hk (by decide) (by decide) dX5_meanFar_106
    · rw [if_pos c9] at h
      obtain rfl := Option.some.inj h
      exact ve_thrW hst S hF hP (fun _ z => List.mem_cons_of_mem _ z) (is := 298) (text := "no letter of the goal is once on the board") rfl th_296_300.1 th_296_300.2.1 th_296_300.2.2.1 (by decide +kernel) th_296_300.2.2.2.1 th_296_300.2.2.2.2 hl.1 hk hxt dX5_meanFar_90 dX5_meanFar_93 dX5_meanFar_94 dX5_meanFar_97 dX5_meanFar_100 ⟨Nat.le_of_ble_eq_true rfl, Nat.le_of_ble_eq_true rfl, Nat.le_of_ble_eq_true rfl, Nat.le_of_ble_eq_true rfl⟩ (by decide) (by decide)
  have hL6 : ∀ (w : Wo) (n : Nat) (x1 : Int32) (x2 : Int32) (x3 : Int32), jl3 (B_X5_meanFar_6 w) n x1 x2 x3 = some r → ∀ (H : Heap) (locs : List Loc) (ls : Array Slot), St P s w H locs → lv_has ls 5 [(0, .ref (P.2.1 0)), (1, .int x1), (2, .int x2), (3, .int x3)] → W p l e (rmU 6 1 (6 * 1)) s m args below meth c H locs 0 0 (XD P 1 r below args s) (F0 m 6 ls []) := by
    intro w
    intro n
    induction n with
    | zero =>
      intro x1 x2 x3 h
      cases h
    | succ n ih6 =>
      intro x1 x2 x3 h H locs ls hP hl
      replace h : B_X5_meanFar_6 w (jl3 (B_X5_meanFar_6 w) n) x1 x2 x3 = some r := h
      revert h ih6
      generalize jl3 (B_X5_meanFar_6 w) n = k6
      intro ih6 h
      have hB80 : ∀ (x1 : Int32) (x2 : Int32) (x3 : Int32), B_X5_meanFar_80 k6 w x1 x2 x3 = some r → ∀ (H : Heap) (locs : List Loc) (ls : Array Slot), St P s w H locs → lv_has ls 5 [(0, .ref (P.2.1 0)), (1, .int x1), (2, .int x2), (3, .int x3)] → W p l e (rmU 6 1 (6 * 1)) s m args below meth c H locs 0 0 (XD P 1 r below args s) (F0 m 80 ls []) := by
        intro x1 x2 x3 h H locs ls hP hl
        unfold B_X5_meanFar_80 at h
        refine lv_iinc (v := (x3 + 1)) (lv' := [(3, .int (x3 + 1)), (0, .ref (P.2.1 0)), (1, .int x1), (2, .int x2)]) hx hb dX5_meanFar_80 hl (k := 3) rfl rfl (by decide) rfl (fun ls hl => ?_)
        refine lv_goto (tgt := 6) hx hb dX5_meanFar_83 (by decide) ?_
        exact ih6 _ _ _ h _ _ _ hP (lv_sub hl [1, 2, 3, 0] rfl)
      unfold B_X5_meanFar_6 at h
      refine lv_iload_n hx hb dX5_meanFar_6 rfl (lv_at hl 3 rfl) ?_
      refine lv_aload_n hx hb dX5_meanFar_7 rfl (lv_at hl 0 rfl) ?_
      refine vt_getR (r := 1) S hF hP (k := 0) (ci := 5) 0 (hlt _ (by decide)) rfl (by decide) rfl (by decide) rfl rfl (inC_X5 _) (List.mem_cons_of_mem _ fl_X5_12) dX5_meanFar_8 ?_
      refine vu_i hP (vu_V S hF hP (h := 1) (hlt _ (by decide)) rfl (by decide) rfl (c_X0_places l P hA hn w) ok_X0_places ml_X5_79 ⟨Nat.le_of_ble_eq_true rfl, Nat.le_of_ble_eq_true rfl⟩ rfl hl.1 rfl (Nat.le_of_ble_eq_true rfl) dX5_meanFar_11 ⟨Nat.le_of_ble_eq_true rfl, Nat.le_of_ble_eq_true rfl⟩) (fun H locs ho1 hP => ?_)
      refine lv_icmp_ge (tgt := 86) hx hb dX5_meanFar_14 (by decide) (fun c11 => ?_) (fun c11 => ?_)
      · rw [if_pos c11] at h
        exact hB86 _ _ _ h _ _ _ hP (lv_sub hl [1, 2] rfl)
      · rw [if_neg c11] at h
        refine lv_aload_n hx hb dX5_meanFar_17 rfl (lv_at hl 0 rfl) ?_
        refine vt_getR (r := 1) S hF hP (k := 0) (ci := 5) 0 (hlt _ (by decide)) rfl (by decide) rfl (by decide) rfl rfl (inC_X5 _) (List.mem_cons_of_mem _ fl_X5_12) dX5_meanFar_18 ?_
        refine vt_getL S hF hP (k := 3) (ci := 0) 1 (hlt _ (by decide)) rfl (by decide) rfl (by decide) rfl (inC_X0 _) (List.mem_cons_of_mem _ fl_X5_99) dX5_meanFar_21 ?_
        refine lv_iload_n hx hb dX5_meanFar_24 rfl (lv_at hl 3 rfl) ?_
        refine vu_i hP (vu_S S hF hP (c_X5_codeAt l P hA hn w (gL w 1 3) x3) ok_X5_codeAt ml_X5_91 ⟨Nat.le_of_ble_eq_true rfl, Nat.le_of_ble_eq_true rfl⟩ rfl hl.1 rfl (Nat.le_of_ble_eq_true rfl) dX5_meanFar_25 ⟨Nat.le_of_ble_eq_true rfl, Nat.le_of_ble_eq_true rfl⟩) (fun H locs ho2 hP => ?_)
        refine lv_istore (lv' := [(4, .int (F_X5_codeAt (gL w 1 3) x3)), (0, .ref (P.2.1 0)), (1, .int x1), (2, .int x2), (3, .int x3)]) hx hb dX5_meanFar_28 hl (by decide) rfl (fun ls hl => ?_)
        refine lv_aload_n hx hb dX5_meanFar_30 rfl (lv_at hl 1 rfl) ?_
        refine vt_getR (r := 1) S hF hP (k := 0) (ci := 5) 0 (hlt _ (by decide)) rfl (by decide) rfl (by decide) rfl rfl (inC_X5 _) (List.mem_cons_of_mem _ fl_X5_12) dX5_meanFar_31 ?_
        refine lv_aload_n hx hb dX5_meanFar_34 rfl (lv_at hl 1 rfl) ?_
        refine vt_getR (r := 1) S hF hP (k := 0) (ci := 5) 0 (hlt _ (by decide)) rfl (by decide) rfl (by decide) rfl rfl (inC_X5 _) (List.mem_cons_of_mem _ fl_X5_12) dX5_meanFar_35 ?_
        refine vt_getL S hF hP (k := 2) (ci := 0) 1 (hlt _ (by decide)) rfl (by decide) rfl (by decide) rfl (inC_X0 _) (List.mem_cons_of_mem _ fl_X5_83) dX5_meanFar_38 ?_
        refine lv_iload hx hb dX5_meanFar_41 (lv_at hl 0 rfl) ?_
        obtain ⟨q3, hq3, h⟩ := ob h
        refine vu_i hP (vu_V S hF hP (h := 1) (hlt _ (by decide)) rfl (by decide) rfl (c_X0_count l P hA hn w (gL w 1 2) (F_X5_codeAt (gL w 1 3) x3) hq3) ok_X0_count ml_X5_171 ⟨Nat.le_of_ble_eq_true rfl, Nat.le_of_ble_eq_true rfl⟩ rfl hl.1 rfl (Nat.le_of_ble_eq_true rfl) dX5_meanFar_43 ⟨Nat.le_of_ble_eq_true rfl, Nat.le_of_ble_eq_true rfl⟩) (fun H locs ho4 hP => ?_)
        refine lv_iconst (v := 1) hx hb dX5_meanFar_46 (by decide) ?_
        refine lv_icmp_ne (tgt := 80) hx hb dX5_meanFar_47 (by decide) (fun c12 => ?_) (fun c12 => ?_)
        · rw [if_neg c12] at h
          exact hB80 _ _ _ h _ _ _ hP (lv_sub hl [1, 2, 3, 4] rfl)
        · rw [if_pos c12] at h
          refine lv_iinc (v := (x1 + 1)) (lv' := [(1, .int (x1 + 1)), (4, .int (F_X5_codeAt (gL w 1 3) x3)), (0, .ref (P.2.1 0)), (2, .int x2), (3, .int x3)]) hx hb dX5_meanFar_50 hl (k := 2) rfl rfl (by decide) rfl (fun ls hl => ?_)
          refine lv_iload_n hx hb dX5_meanFar_53 rfl (lv_at hl 3 rfl) ?_
          refine lv_aload_n hx hb dX5_meanFar_54 rfl (lv_at hl 2 rfl) ?_
          refine vt_getR (r := 1) S hF hP (k := 0) (ci := 5) 0 (hlt _ (by decide)) rfl (by decide) rfl (by decide) rfl rfl (inC_X5 _) (List.mem_cons_of_mem _ fl_X5_12) dX5_meanFar_55 ?_
          refine lv_iload_n hx hb dX5_meanFar_58 rfl (lv_at hl 4 rfl) ?_
          refine lv_aload_n hx hb dX5_meanFar_59 rfl (lv_at hl 2 rfl) ?_
          refine vt_getR (r := 1) S hF hP (k := 0) (ci := 5) 0 (hlt _ (by decide)) rfl (by decide) rfl (by decide) rfl rfl (inC_X5 _) (List.mem_cons_of_mem _ fl_X5_12) dX5_meanFar_60 ?_
          refine lv_aload_n hx hb dX5_meanFar_63 rfl (lv_at hl 2 rfl) ?_
          refine vt_getR (r := 1) S hF hP (k := 0) (ci := 5) 0 (hlt _ (by decide)) rfl (by decide) rfl (by decide) rfl rfl (inC_X5 _) (List.mem_cons_of_mem _ fl_X5_12) dX5_meanFar_64 ?_
          refine vt_getL S hF hP (k := 2) (ci := 0) 1 (hlt _ (by decide)) rfl (by decide) rfl (by decide) rfl (inC_X0 _) (List.mem_cons_of_mem _ fl_X5_83) dX5_meanFar_67 ?_
          refine lv_iload hx hb dX5_meanFar_70 (lv_at hl 1 rfl) ?_
          obtain ⟨q5, hq5, h⟩ := ob h
          refine vu_i hP (vu_V S hF hP (h := 1) (hlt _ (by decide)) rfl (by decide) rfl (c_X0_placeOf l P hA hn w (gL w 1 2) (F_X5_codeAt (gL w 1 3) x3) hq5) ok_X0_placeOf ml_X5_293 ⟨Nat.le_of_ble_eq_true rfl, Nat.le_of_ble_eq_true rfl⟩ rfl hl.1 rfl (Nat.le_of_ble_eq_true rfl) dX5_meanFar_72 ⟨Nat.le_of_ble_eq_true rfl, Nat.le_of_ble_eq_true rfl⟩) (fun H locs ho6 hP => ?_)
          obtain ⟨q7, hq7, h⟩ := ob h
          refine vu_i hP (vu_V S hF hP (h := 1) (hlt _ (by decide)) rfl (by decide) rfl (c_X0_distance l P hA hn w x3 q5 hq7) ok_X0_distance ml_X5_221 ⟨Nat.le_of_ble_eq_true rfl, Nat.le_of_ble_eq_true rfl⟩ rfl hl.1 rfl (Nat.le_of_ble_eq_true rfl) dX5_meanFar_75 ⟨Nat.le_of_ble_eq_true rfl, Nat.le_of_ble_eq_true rfl⟩) (fun H locs ho8 hP => ?_)
          refine lv_iadd hx hb dX5_meanFar_78 ?_
          refine lv_istore_n (lv' := [(2, .int (x2 + q7)), (1, .int (x1 + 1)), (4, .int (F_X5_codeAt (gL w 1 3) x3)), (0, .ref (P.2.1 0)), (3, .int x3)]) hx hb dX5_meanFar_79 rfl hl (by decide) rfl (fun ls hl => ?_)
          exact hB80 _ _ _ h _ _ _ hP (lv_sub hl [3, 1, 0, 4] rfl)
  unfold F_X5_meanFar at h
  refine lv_iconst (v := 0) hx hb dX5_meanFar_0 (by decide) ?_
  refine lv_istore_n (lv' := [(1, .int 0), (0, .ref (P.2.1 0))]) hx hb dX5_meanFar_1 rfl hl (by decide) rfl (fun ls hl => ?_)
  refine lv_iconst (v := 0) hx hb dX5_meanFar_2 (by decide) ?_
  refine lv_istore_n (lv' := [(2, .int 0), (1, .int 0), (0, .ref (P.2.1 0))]) hx hb dX5_meanFar_3 rfl hl (by decide) rfl (fun ls hl => ?_)
  refine lv_iconst (v := 0) hx hb dX5_meanFar_4 (by decide) ?_
  refine lv_istore_n (lv' := [(3, .int 0), (2, .int 0), (1, .int 0), (0, .ref (P.2.1 0))]) hx hb dX5_meanFar_5 rfl hl (by decide) rfl (fun ls hl => ?_)
  exact hL6 _ fu _ _ _ h _ _ _ hP (lv_sub hl [3, 2, 1, 0] rfl)
set_option maxRecDepth 100000 in
set_option maxHeartbeats 4000000 in
theorem c_X5_homeShare (l : Launch) (P : Pl) (hA : Adr P) (hn : 26 ≤ P.2.2.2.1) (w : Wo) {r : UInt32} (h : F_X5_homeShare w = some r) : CtF l P yX5_homeShare cX5_homeShare 2 (some .float) 2 [.ref (P.2.1 0)] w r w := by
  have hlt : ∀ h, h < 26 → h < P.2.2.2.1 := fun h q => Nat.lt_of_lt_of_le q hn
  refine vs_met hA (by decide +kernel) (Nat.le_of_ble_eq_true rfl) (fun p e s m args below meth c ls S hF hP hl hr hk => ?_)
  have hx := S.1
  have hb := S.2.1
  replace hl : lv_has ls 2 [(0, .ref (P.2.1 0))] := hl
  unfold F_X5_homeShare at h
  refine lv_aload_n hx hb dX5_homeShare_0 rfl (lv_at hl 0 rfl) ?_
  refine vt_getR (r := 1) S hF hP (k := 0) (ci := 5) 0 (hlt _ (by decide)) rfl (by decide) rfl (by decide) rfl rfl (inC_X5 _) (List.mem_cons_of_mem _ fl_X5_12) dX5_homeShare_1 ?_
  refine vu_i hP (vu_V S hF hP (h := 1) (hlt _ (by decide)) rfl (by decide) rfl (c_X0_places l P hA hn w) ok_X0_places ml_X5_79 ⟨Nat.le_of_ble_eq_true rfl, Nat.le_of_ble_eq_true rfl⟩ rfl hl.1 rfl (Nat.le_of_ble_eq_true rfl) dX5_homeShare_4 ⟨Nat.le_of_ble_eq_true rfl, Nat.le_of_ble_eq_true rfl⟩) (fun H locs ho1 hP => ?_)
  refine lv_istore_n (lv' := [(1, .int (F_X0_places w)), (0, .ref (P.2.1 0))]) hx hb dX5_homeShare_7 rfl hl (by decide) rfl (fun ls hl => ?_)
  refine lv_iload_n hx hb dX5_homeShare_8 rfl (lv_at hl 0 rfl) ?_
  refine lv_if_ne (tgt := 16) hx hb dX5_homeShare_9 (by decide) (fun c4 => ?_) (fun c4 => ?_)
  · rw [if_neg c4] at h
    refine lv_aload_n hx hb dX5_homeShare_16 rfl (lv_at hl 1 rfl) ?_
    refine vt_getR (r := 1) S hF hP (k := 0) (ci := 5) 0 (hlt _ (by decide)) rfl (by decide) rfl (by decide) rfl rfl (inC_X5 _) (List.mem_cons_of_mem _ fl_X5_12) dX5_homeShare_17 ?_
    refine lv_aload_n hx hb dX5_homeShare_20 rfl (lv_at hl 1 rfl) ?_
    refine vt_getR (r := 1) S hF hP (k := 0) (ci := 5) 0 (hlt _ (by decide)) rfl (by decide) rfl (by decide) rfl rfl (inC_X5 _) (List.mem_cons_of_mem _ fl_X5_12) dX5_homeShare_21 ?_
    refine vt_getL S hF hP (k := 2) (ci := 0) 1 (hlt _ (by decide)) rfl (by decide) rfl (by decide) rfl (inC_X0 _) (List.mem_cons_of_mem _ fl_X5_83) dX5_homeShare_24 ?_
    obtain ⟨q2, hq2, h⟩ := ob h
    refine vu_i hP (vu_V S hF hP (h := 1) (hlt _ (by decide)) rfl (by decide) rfl (c_X0_atHome l P hA hn w (gL w 1 2) hq2) ok_X0_atHome ml_X5_102 ⟨Nat.le_of_ble_eq_true rfl, Nat.le_of_ble_eq_true rfl⟩ rfl hl.1 rfl (Nat.le_of_ble_eq_true rfl) dX5_homeShare_27 ⟨Nat.le_of_ble_eq_true rfl, Nat.le_of_ble_eq_true rfl⟩) (fun H locs ho3 hP => ?_)
    refine lv_i2f hx hb dX5_homeShare_30 ?_
    refine lv_iload_n hx hb dX5_homeShare_31 rfl (lv_at hl 0 rfl) ?_
    refine lv_i2f hx hb dX5_homeShare_32 ?_
    obtain ⟨c5, h⟩ := chk h
    refine lv_fdiv hx hb dX5_homeShare_33 c5 ?_
    obtain rfl := Option.some.inj h
    exact ve_f S hF hP hr hk dX5_homeShare_34
  · rw [if_pos c4] at h
    refine lv_fconst0 hx hb dX5_homeShare_12 ?_
    refine lv_goto (tgt := 34) hx hb dX5_homeShare_13 (by decide) ?_
    obtain rfl := Option.some.inj h
    exact ve_f S hF hP hr hk dX5_homeShare_34
set_option maxRecDepth 100000 in
set_option maxHeartbeats 4000000 in
theorem c_X2_takeBack (l : Launch) (P : Pl) (hA : Adr P) (hn : 26 ≤ P.2.2.2.1) (w : Wo) {r : Wo} (h : F_X2_takeBack w = some r) : CtV l P yX2_takeBack cX2_takeBack 2 none 2 [.ref (P.2.1 4), .ref (P.2.1 1)] w r := by
  have hlt : ∀ h, h < 26 → h < P.2.2.2.1 := fun h q => Nat.lt_of_lt_of_le q hn
  refine vs_met hA (by decide +kernel) (Nat.le_of_ble_eq_true rfl) (fun p e s m args below meth c ls S hF hP hl hr hk => ?_)
  have hx := S.1
  have hb := S.2.1
  replace hl : lv_has ls 2 [(0, .ref (P.2.1 4)), (1, .ref (P.2.1 1))] := hl
  have hB36 : ∀ (w : Wo), B_X2_takeBack_36 w = some r → ∀ (H : Heap) (locs : List Loc) (ls : Array Slot), St P s w H locs → lv_has ls 2 [(0, .ref (P.2.1 4)), (1, .ref (P.2.1 1))] → W p l e (rmU 2 0 0) s m args below meth c H locs 0 0 (QV P r below args s) (F0 m 36 ls []) := by
    intro w h H locs ls hP hl
    unfold B_X2_takeBack_36 at h
    refine lv_aload_n hx hb dX2_takeBack_36 rfl (lv_at hl 0 rfl) ?_
    refine lv_aload_n hx hb dX2_takeBack_37 rfl (lv_at hl 0 rfl) ?_
    refine vt_getI S hF hP (k := 1) (ci := 2) 4 (hlt _ (by decide)) rfl (by decide) rfl (by decide) rfl (inC_X2 _) (List.mem_cons_of_mem _ fl_X2_17) dX2_takeBack_38 ?_
    obtain ⟨q1, hq1, h⟩ := ob h
    refine vu_r hP (vu_V S hF hP (h := 4) (hlt _ (by decide)) rfl (by decide) rfl (c_X2_at l P hA hn w (gI w 4 1) hq1) ok_X2_at ml_X2_25 ⟨Nat.le_of_ble_eq_true rfl, Nat.le_of_ble_eq_true rfl⟩ rfl hl.1 rfl (Nat.le_of_ble_eq_true rfl) dX2_takeBack_41 ⟨Nat.le_of_ble_eq_true rfl, Nat.le_of_ble_eq_true rfl⟩) (fun H locs hP => ?_)
    obtain ⟨cr2, h⟩ := chk h
    refine lv_aload_n hx hb dX2_takeBack_44 rfl (lv_at hl 1 rfl) ?_
    obtain ⟨q3, hq3, h⟩ := ob h
    refine vu_v hP (vu_S S hF hP (c_X2_copyBoard l P hA hn q1 1 cr2.1 (cr2.2) rfl (by decide) w hq3) ok_X2_copyBoard ml_X2_29 ⟨Nat.le_of_ble_eq_true rfl, Nat.le_of_ble_eq_true rfl⟩ rfl hl.1 rfl (Nat.le_of_ble_eq_true rfl) dX2_takeBack_45 ⟨Nat.le_of_ble_eq_true rfl, Nat.le_of_ble_eq_true rfl⟩) (fun H locs hP => ?_)
    obtain rfl := Option.some.inj h
    exact ve_v S hF hP hr hk dX2_takeBack_48
  have hB22 : ∀ (w : Wo), B_X2_takeBack_22 w = some r → ∀ (H : Heap) (locs : List Loc) (ls : Array Slot), St P s w H locs → lv_has ls 2 [(0, .ref (P.2.1 4)), (1, .ref (P.2.1 1))] → W p l e (rmU 2 0 0) s m args below meth c H locs 0 0 (QV P r below args s) (F0 m 22 ls []) := by
    intro w h H locs ls hP hl
    unfold B_X2_takeBack_22 at h
    refine lv_aload_n hx hb dX2_takeBack_22 rfl (lv_at hl 0 rfl) ?_
    refine lv_aload_n hx hb dX2_takeBack_23 rfl (lv_at hl 0 rfl) ?_
    refine vt_getI S hF hP (k := 2) (ci := 2) 4 (hlt _ (by decide)) rfl (by decide) rfl (by decide) rfl (inC_X2 _) (List.mem_cons_of_mem _ fl_X2_21) dX2_takeBack_24 ?_
    refine lv_iconst (v := 1) hx hb dX2_takeBack_27 (by decide) ?_
    refine lv_isub hx hb dX2_takeBack_28 ?_
    refine lv_iconst (v := 0) hx hb dX2_takeBack_29 (by decide) ?_
    refine va_mmax hx hb (S.2.2.1.trans hl.1.symm) S.2.2.2.1 (S.2.2.2.2 _ (List.mem_cons_of_mem _ lib_X2_39.1)) (S.2.2.2.2 _ (List.mem_cons_of_mem _ lib_X2_39.2.1)) (S.2.2.2.2 _ (List.mem_cons_of_mem _ lib_X2_39.2.2.1)) (S.2.2.2.2 _ (List.mem_cons_of_mem _ lib_X2_39.2.2.2)) (by decide) (Nat.le_of_ble_eq_true rfl) (Nat.zero_le _) (Nat.zero_le _) dX2_takeBack_30 ?_
    refine vt_putI S hF hP (k := 2) (ci := 2) 4 (hlt _ (by decide)) rfl (by decide) rfl (by decide) rfl tyX2 tyX2_ok nmX2 rfl rfl rfl rfl (by decide) (inC_X2 _) (List.mem_cons_of_mem _ fl_X2_21) dX2_takeBack_33 (fun H locs hP => ?_)
    exact hB36 _ h _ _ _ hP (lv_sub hl [0, 1] rfl)
  have hB19 : ∀ (w : Wo) (t0 : Int32), B_X2_takeBack_19 w t0 = some r → ∀ (H : Heap) (locs : List Loc) (ls : Array Slot), St P s w H locs → lv_has ls 2 [(0, .ref (P.2.1 4)), (1, .ref (P.2.1 1))] → W p l e (rmU 2 0 0) s m args below meth c H locs 0 0 (QV P r below args s) (F0 m 19 ls [.int t0, .ref (P.2.1 4)]) := by
    intro w t0 h H locs ls hP hl
    unfold B_X2_takeBack_19 at h
    refine vt_putI S hF hP (k := 1) (ci := 2) 4 (hlt _ (by decide)) rfl (by decide) rfl (by decide) rfl tyX2 tyX2_ok nmX2 rfl rfl rfl rfl (by decide) (inC_X2 _) (List.mem_cons_of_mem _ fl_X2_17) dX2_takeBack_19 (fun H locs hP => ?_)
    exact hB22 _ h _ _ _ hP (lv_sub hl [0, 1] rfl)
  unfold F_X2_takeBack at h
  refine lv_aload_n hx hb dX2_takeBack_0 rfl (lv_at hl 0 rfl) ?_
  refine lv_aload_n hx hb dX2_takeBack_1 rfl (lv_at hl 0 rfl) ?_
  refine vt_getI S hF hP (k := 1) (ci := 2) 4 (hlt _ (by decide)) rfl (by decide) rfl (by decide) rfl (inC_X2 _) (List.mem_cons_of_mem _ fl_X2_17) dX2_takeBack_2 ?_
  refine lv_if_gt (tgt := 13) hx hb dX2_takeBack_5 (by decide) (fun c4 => ?_) (fun c4 => ?_)
  · rw [if_pos c4] at h
    refine lv_aload_n hx hb dX2_takeBack_13 rfl (lv_at hl 0 rfl) ?_
    refine vt_getI S hF hP (k := 1) (ci := 2) 4 (hlt _ (by decide)) rfl (by decide) rfl (by decide) rfl (inC_X2 _) (List.mem_cons_of_mem _ fl_X2_17) dX2_takeBack_14 ?_
    refine lv_iconst (v := 1) hx hb dX2_takeBack_17 (by decide) ?_
    refine lv_isub hx hb dX2_takeBack_18 ?_
    exact hB19 _ _ h _ _ _ hP (lv_sub hl [0, 1] rfl)
  · rw [if_neg c4] at h
    refine lv_bipush (v := 7) hx hb dX2_takeBack_8 (by decide) ?_
    refine lv_goto (tgt := 19) hx hb dX2_takeBack_10 (by decide) ?_
    exact hB19 _ _ h _ _ _ hP (lv_sub hl [0, 1] rfl)
set_option maxRecDepth 100000 in
set_option maxHeartbeats 4000000 in
theorem c_X5_undo (l : Launch) (P : Pl) (hA : Adr P) (hn : 26 ≤ P.2.2.2.1) (hst : l.stackTraces = false) (w : Wo) {r : (Nat × Wo) ⊕ (Int32 × Wo)} (h : F_X5_undo w = some r) : CxI l P yX5_undo cX5_undo 1 (some .int) 6 1 [.ref (P.2.1 0)] w r := by
  have hlt : ∀ h, h < 26 → h < P.2.2.2.1 := fun h q => Nat.lt_of_lt_of_le q hn
  refine vs_vx hA (by decide +kernel) (Nat.le_of_ble_eq_true rfl) (fun p e s m args below meth c ls S hF hP hl hr hk hxt => ?_)
  have hx := S.1
  have hb := S.2.1
  replace hl : lv_has ls 1 [(0, .ref (P.2.1 0))] := hl
  unfold F_X5_undo at h
  refine lv_aload_n hx hb dX5_undo_0 rfl (lv_at hl 0 rfl) ?_
  refine vt_getR (r := 4) S hF hP (k := 3) (ci := 5) 0 (hlt _ (by decide)) rfl (by decide) rfl (by decide) rfl rfl (inC_X5 _) (List.mem_cons_of_mem _ fl_X5_25) dX5_undo_1 ?_
  refine vt_getI S hF hP (k := 2) (ci := 2) 4 (hlt _ (by decide)) rfl (by decide) rfl (by decide) rfl (inC_X2 _) (List.mem_cons_of_mem _ fl_X5_287) dX5_undo_4 ?_
  refine lv_if_gt (tgt := 21) hx hb dX5_undo_7 (by decide) (fun c2 => ?_) (fun c2 => ?_)
  · rw [if_pos c2] at h
    refine lv_aload_n hx hb dX5_undo_21 rfl (lv_at hl 0 rfl) ?_
    refine vt_getR (r := 4) S hF hP (k := 3) (ci := 5) 0 (hlt _ (by decide)) rfl (by decide) rfl (by decide) rfl rfl (inC_X5 _) (List.mem_cons_of_mem _ fl_X5_25) dX5_undo_22 ?_
    refine lv_aload_n hx hb dX5_undo_25 rfl (lv_at hl 0 rfl) ?_
    refine vt_getR (r := 1) S hF hP (k := 0) (ci := 5) 0 (hlt _ (by decide)) rfl (by decide) rfl (by decide) rfl rfl (inC_X5 _) (List.mem_cons_of_mem _ fl_X5_12) dX5_undo_26 ?_
    obtain ⟨q1, hq1, h⟩ := ob h
    refine vu_v hP (vu_V S hF hP (h := 4) (hlt _ (by decide)) rfl (by decide) rfl (c_X2_takeBack l P hA hn w hq1) ok_X2_takeBack ml_X5_303 ⟨Nat.le_of_ble_eq_true rfl, Nat.le_of_ble_eq_true rfl⟩ rfl hl.1 rfl (Nat.le_of_ble_eq_true rfl) dX5_undo_29 ⟨Nat.le_of_ble_eq_true rfl, Nat.le_of_ble_eq_true rfl⟩) (fun H locs hP => ?_)
    refine lv_aload_n hx hb dX5_undo_32 rfl (lv_at hl 0 rfl) ?_
    refine vt_getR (r := 4) S hF hP (k := 3) (ci := 5) 0 (hlt _ (by decide)) rfl (by decide) rfl (by decide) rfl rfl (inC_X5 _) (List.mem_cons_of_mem _ fl_X5_25) dX5_undo_33 ?_
    refine vt_getI S hF hP (k := 2) (ci := 2) 4 (hlt _ (by decide)) rfl (by decide) rfl (by decide) rfl (inC_X2 _) (List.mem_cons_of_mem _ fl_X5_287) dX5_undo_36 ?_
    obtain rfl := Option.some.inj h
    exact ve_xi (v := (gI q1 4 2)) S hF hP hr hk rfl (by decide) (by decide) dX5_undo_39
  · rw [if_neg c2] at h
    obtain rfl := Option.some.inj h
    exact ve_thrW hst S hF hP (fun _ z => List.mem_cons_of_mem _ z) (is := 301) (text := "no change can be undone") rfl th_259_263.1 th_259_263.2.1 th_259_263.2.2.1 (by decide +kernel) th_259_263.2.2.2.1 th_259_263.2.2.2.2 hl.1 hk hxt dX5_undo_10 dX5_undo_13 dX5_undo_14 dX5_undo_17 dX5_undo_20 ⟨Nat.le_of_ble_eq_true rfl, Nat.le_of_ble_eq_true rfl, Nat.le_of_ble_eq_true rfl, Nat.le_of_ble_eq_true rfl⟩ (by decide) (by decide)
set_option maxRecDepth 100000 in
set_option maxHeartbeats 4000000 in
theorem c_X5_save (l : Launch) (P : Pl) (hA : Adr P) (hn : 26 ≤ P.2.2.2.1) (w : Wo) {r : Int32 × Wo} (h : F_X5_save w = some r) : CtI l P yX5_save cX5_save 1 (some .int) 2 [.ref (P.2.1 0)] w r.1 r.2 := by
  have hlt : ∀ h, h < 26 → h < P.2.2.2.1 := fun h q => Nat.lt_of_lt_of_le q hn
  refine vs_met hA (by decide +kernel) (Nat.le_of_ble_eq_true rfl) (fun p e s m args below meth c ls S hF hP hl hr hk => ?_)
  have hx := S.1
  have hb := S.2.1
  replace hl : lv_has ls 1 [(0, .ref (P.2.1 0))] := hl
  have hB16 : ∀ (w : Wo), B_X5_save_16 w = some r → ∀ (H : Heap) (locs : List Loc) (ls : Array Slot), St P s w H locs → lv_has ls 1 [(0, .ref (P.2.1 0))] → W p l e (rmU 2 0 0) s m args below meth c H locs 0 0 (QI P (some .int) r.1 r.2 below args s) (F0 m 16 ls []) := by
    intro w h H locs ls hP hl
    unfold B_X5_save_16 at h
    refine lv_aload_n hx hb dX5_save_16 rfl (lv_at hl 0 rfl) ?_
    refine vt_getR (r := 1) S hF hP (k := 0) (ci := 5) 0 (hlt _ (by decide)) rfl (by decide) rfl (by decide) rfl rfl (inC_X5 _) (List.mem_cons_of_mem _ fl_X5_12) dX5_save_17 ?_
    refine lv_aload_n hx hb dX5_save_20 rfl (lv_at hl 0 rfl) ?_
    refine vt_getR (r := 1) S hF hP (k := 0) (ci := 5) 0 (hlt _ (by decide)) rfl (by decide) rfl (by decide) rfl rfl (inC_X5 _) (List.mem_cons_of_mem _ fl_X5_12) dX5_save_21 ?_
    refine vt_getL S hF hP (k := 2) (ci := 0) 1 (hlt _ (by decide)) rfl (by decide) rfl (by decide) rfl (inC_X0 _) (List.mem_cons_of_mem _ fl_X5_83) dX5_save_24 ?_
    obtain ⟨q2, hq2, h⟩ := ob h
    refine vu_i hP (vu_V S hF hP (h := 1) (hlt _ (by decide)) rfl (by decide) rfl (c_X0_atHome l P hA hn w (gL w 1 2) hq2) ok_X0_atHome ml_X5_102 ⟨Nat.le_of_ble_eq_true rfl, Nat.le_of_ble_eq_true rfl⟩ rfl hl.1 rfl (Nat.le_of_ble_eq_true rfl) dX5_save_27 ⟨Nat.le_of_ble_eq_true rfl, Nat.le_of_ble_eq_true rfl⟩) (fun H locs ho3 hP => ?_)
    obtain rfl := Option.some.inj h
    exact ve_i (v := q2) S hF hP hr hk rfl dX5_save_30
  unfold F_X5_save at h
  refine lv_aload_n hx hb dX5_save_0 rfl (lv_at hl 0 rfl) ?_
  refine vt_getR (r := 3) S hF hP (k := 2) (ci := 5) 0 (hlt _ (by decide)) rfl (by decide) rfl (by decide) rfl rfl (inC_X5 _) (List.mem_cons_of_mem _ fl_X5_19) dX5_save_1 ?_
  refine lv_aload_n hx hb dX5_save_4 rfl (lv_at hl 0 rfl) ?_
  refine vt_getR (r := 1) S hF hP (k := 0) (ci := 5) 0 (hlt _ (by decide)) rfl (by decide) rfl (by decide) rfl rfl (inC_X5 _) (List.mem_cons_of_mem _ fl_X5_12) dX5_save_5 ?_
  obtain ⟨q1, hq1, h⟩ := ob h
  refine vu_v hP (vu_V S hF hP (h := 3) (hlt _ (by decide)) rfl (by decide) rfl (c_X0_copy l P hA hn 3 1 rfl (by decide) rfl (by decide) w hq1) ok_X0_copy ml_X5_306 ⟨Nat.le_of_ble_eq_true rfl, Nat.le_of_ble_eq_true rfl⟩ rfl hl.1 rfl (Nat.le_of_ble_eq_true rfl) dX5_save_8 ⟨Nat.le_of_ble_eq_true rfl, Nat.le_of_ble_eq_true rfl⟩) (fun H locs hP => ?_)
  refine lv_aload_n hx hb dX5_save_11 rfl (lv_at hl 0 rfl) ?_
  refine lv_iconst (v := 1) hx hb dX5_save_12 (by decide) ?_
  refine vt_putI S hF hP (k := 12) (ci := 5) 0 (hlt _ (by decide)) rfl (by decide) rfl (by decide) rfl tyX5 tyX5_ok nmX5 rfl rfl rfl rfl (by decide) (inC_X5 _) (List.mem_cons_of_mem _ fl_X5_67) dX5_save_13 (fun H locs hP => ?_)
  exact hB16 _ h _ _ _ hP (lv_sub hl [0] rfl)
set_option maxRecDepth 100000 in
set_option maxHeartbeats 4000000 in
theorem c_X2_forget (l : Launch) (P : Pl) (hA : Adr P) (hn : 26 ≤ P.2.2.2.1) (w : Wo) {r : Wo} (h : F_X2_forget w = some r) : CtV l P yX2_forget cX2_forget 1 none 0 [.ref (P.2.1 4)] w r := by
  have hlt : ∀ h, h < 26 → h < P.2.2.2.1 := fun h q => Nat.lt_of_lt_of_le q hn
  refine vs_met hA (by decide +kernel) (Nat.le_of_ble_eq_true rfl) (fun p e s m args below meth c ls S hF hP hl hr hk => ?_)
  have hx := S.1
  have hb := S.2.1
  replace hl : lv_has ls 1 [(0, .ref (P.2.1 4))] := hl
  unfold F_X2_forget at h
  refine lv_aload_n hx hb dX2_forget_0 rfl (lv_at hl 0 rfl) ?_
  refine lv_iconst (v := 0) hx hb dX2_forget_1 (by decide) ?_
  refine vt_putI S hF hP (k := 2) (ci := 2) 4 (hlt _ (by decide)) rfl (by decide) rfl (by decide) rfl tyX2 tyX2_ok nmX2 rfl rfl rfl rfl (by decide) (inC_X2 _) (List.mem_cons_of_mem _ fl_X2_21) dX2_forget_2 (fun H locs hP => ?_)
  obtain rfl := Option.some.inj h
  exact ve_v S hF hP hr hk dX2_forget_5
set_option maxRecDepth 100000 in
set_option maxHeartbeats 4000000 in
theorem c_X5_restore (l : Launch) (P : Pl) (hA : Adr P) (hn : 26 ≤ P.2.2.2.1) (hst : l.stackTraces = false) (w : Wo) {r : (Nat × Wo) ⊕ (Int32 × Wo)} (h : F_X5_restore w = some r) : CxI l P yX5_restore cX5_restore 1 (some .int) 6 1 [.ref (P.2.1 0)] w r := by
  have hlt : ∀ h, h < 26 → h < P.2.2.2.1 := fun h q => Nat.lt_of_lt_of_le q hn
  refine vs_vx hA (by decide +kernel) (Nat.le_of_ble_eq_true rfl) (fun p e s m args below meth c ls S hF hP hl hr hk hxt => ?_)
  have hx := S.1
  have hb := S.2.1
  replace hl : lv_has ls 1 [(0, .ref (P.2.1 0))] := hl
  unfold F_X5_restore at h
  refine lv_aload_n hx hb dX5_restore_0 rfl (lv_at hl 0 rfl) ?_
  refine vt_getI S hF hP (k := 12) (ci := 5) 0 (hlt _ (by decide)) rfl (by decide) rfl (by decide) rfl (inC_X5 _) (List.mem_cons_of_mem _ fl_X5_67) dX5_restore_1 ?_
  refine lv_if_ne (tgt := 18) hx hb dX5_restore_4 (by decide) (fun c5 => ?_) (fun c5 => ?_)
  · rw [if_neg c5] at h
    refine lv_aload_n hx hb dX5_restore_18 rfl (lv_at hl 0 rfl) ?_
    refine vt_getR (r := 1) S hF hP (k := 0) (ci := 5) 0 (hlt _ (by decide)) rfl (by decide) rfl (by decide) rfl rfl (inC_X5 _) (List.mem_cons_of_mem _ fl_X5_12) dX5_restore_19 ?_
    refine lv_aload_n hx hb dX5_restore_22 rfl (lv_at hl 0 rfl) ?_
    refine vt_getR (r := 3) S hF hP (k := 2) (ci := 5) 0 (hlt _ (by decide)) rfl (by decide) rfl (by decide) rfl rfl (inC_X5 _) (List.mem_cons_of_mem _ fl_X5_19) dX5_restore_23 ?_
    obtain ⟨q1, hq1, h⟩ := ob h
    refine vu_v hP (vu_V S hF hP (h := 1) (hlt _ (by decide)) rfl (by decide) rfl (c_X0_copy l P hA hn 1 3 rfl (by decide) rfl (by decide) w hq1) ok_X0_copy ml_X5_306 ⟨Nat.le_of_ble_eq_true rfl, Nat.le_of_ble_eq_true rfl⟩ rfl hl.1 rfl (Nat.le_of_ble_eq_true rfl) dX5_restore_26 ⟨Nat.le_of_ble_eq_true rfl, Nat.le_of_ble_eq_true rfl⟩) (fun H locs hP => ?_)
    refine lv_aload_n hx hb dX5_restore_29 rfl (lv_at hl 0 rfl) ?_
    refine vt_getR (r := 4) S hF hP (k := 3) (ci := 5) 0 (hlt _ (by decide)) rfl (by decide) rfl (by decide) rfl rfl (inC_X5 _) (List.mem_cons_of_mem _ fl_X5_25) dX5_restore_30 ?_
    obtain ⟨q2, hq2, h⟩ := ob h
    refine vu_v hP (vu_V S hF hP (h := 4) (hlt _ (by decide)) rfl (by decide) rfl (c_X2_forget l P hA hn q1 hq2) ok_X2_forget ml_X5_311 ⟨Nat.le_of_ble_eq_true rfl, Nat.le_of_ble_eq_true rfl⟩ rfl hl.1 rfl (Nat.le_of_ble_eq_true rfl) dX5_restore_33 ⟨Nat.le_of_ble_eq_true rfl, Nat.le_of_ble_eq_true rfl⟩) (fun H locs hP => ?_)
    refine lv_aload_n hx hb dX5_restore_36 rfl (lv_at hl 0 rfl) ?_
    refine vt_getR (r := 1) S hF hP (k := 0) (ci := 5) 0 (hlt _ (by decide)) rfl (by decide) rfl (by decide) rfl rfl (inC_X5 _) (List.mem_cons_of_mem _ fl_X5_12) dX5_restore_37 ?_
    refine lv_aload_n hx hb dX5_restore_40 rfl (lv_at hl 0 rfl) ?_
    refine vt_getR (r := 1) S hF hP (k := 0) (ci := 5) 0 (hlt _ (by decide)) rfl (by decide) rfl (by decide) rfl rfl (inC_X5 _) (List.mem_cons_of_mem _ fl_X5_12) dX5_restore_41 ?_
    refine vt_getL S hF hP (k := 2) (ci := 0) 1 (hlt _ (by decide)) rfl (by decide) rfl (by decide) rfl (inC_X0 _) (List.mem_cons_of_mem _ fl_X5_83) dX5_restore_44 ?_
    obtain ⟨q3, hq3, h⟩ := ob h
    refine vu_i hP (vu_V S hF hP (h := 1) (hlt _ (by decide)) rfl (by decide) rfl (c_X0_atHome l P hA hn q2 (gL q2 1 2) hq3) ok_X0_atHome ml_X5_102 ⟨Nat.le_of_ble_eq_true rfl, Nat.le_of_ble_eq_true rfl⟩ rfl hl.1 rfl (Nat.le_of_ble_eq_true rfl) dX5_restore_47 ⟨Nat.le_of_ble_eq_true rfl, Nat.le_of_ble_eq_true rfl⟩) (fun H locs ho4 hP => ?_)
    obtain rfl := Option.some.inj h
    exact ve_xi (v := q3) S hF hP hr hk rfl (by decide) (by decide) dX5_restore_50
  · rw [if_pos c5] at h
    obtain rfl := Option.some.inj h
    exact ve_thrW hst S hF hP (fun _ z => List.mem_cons_of_mem _ z) (is := 309) (text := "there is no snapshot") rfl th_259_263.1 th_259_263.2.1 th_259_263.2.2.1 (by decide +kernel) th_259_263.2.2.2.1 th_259_263.2.2.2.2 hl.1 hk hxt dX5_restore_7 dX5_restore_10 dX5_restore_11 dX5_restore_14 dX5_restore_17 ⟨Nat.le_of_ble_eq_true rfl, Nat.le_of_ble_eq_true rfl, Nat.le_of_ble_eq_true rfl, Nat.le_of_ble_eq_true rfl⟩ (by decide) (by decide)
