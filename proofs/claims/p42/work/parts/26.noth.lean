/-! RUNS THAT THROW NOTHING: nothing new is made (written by wip/p42/nmode.py) -/
set_option maxRecDepth 100000 in
set_option maxHeartbeats 4000000 in
theorem n_X5_raise (l : Launch) (P : Pl) (hA : Adr P) (hn : 26 ≤ P.2.2.2.1) (w : Wo) (x0 : Int32) {r : Wo} (h : F_X5_raise w x0 = some (Sum.inr r)) : CtV l P yX5_raise cX5_raise 1 none 6 [.int x0] w r := by
  have hlt : ∀ h, h < 26 → h < P.2.2.2.1 := fun h q => Nat.lt_of_lt_of_le q hn
  refine vs_met hA (by decide +kernel) (Nat.le_of_ble_eq_true rfl) (fun p e s m args below meth c ls S hF hP hl hr hk => ?_)
  have hx := S.1
  have hb := S.2.1
  replace hl : lv_has ls 1 [(0, .int x0)] := hl
  unfold F_X5_raise at h
  refine lv_iload_n hx hb dX5_raise_0 rfl (lv_at hl 0 rfl) ?_
  refine lv_iconst (v := 1) hx hb dX5_raise_1 (by decide) ?_
  refine lv_icmp_ne (tgt := 16) hx hb dX5_raise_2 (by decide) (fun c1 => ?_) (fun c1 => ?_)
  · rw [if_neg c1] at h
    refine lv_iload_n hx hb dX5_raise_16 rfl (lv_at hl 0 rfl) ?_
    refine lv_iconst (v := 2) hx hb dX5_raise_17 (by decide) ?_
    refine lv_icmp_ne (tgt := 32) hx hb dX5_raise_18 (by decide) (fun c2 => ?_) (fun c2 => ?_)
    · rw [if_neg c2] at h
      refine lv_iload_n hx hb dX5_raise_32 rfl (lv_at hl 0 rfl) ?_
      refine lv_iconst (v := 3) hx hb dX5_raise_33 (by decide) ?_
      refine lv_icmp_ne (tgt := 48) hx hb dX5_raise_34 (by decide) (fun c3 => ?_) (fun c3 => ?_)
      · rw [if_neg c3] at h
        obtain rfl := Sum.inr.inj (Option.some.inj h)
        exact ve_v S hF hP hr hk dX5_raise_48
      · rw [if_pos c3] at h
        cases h
    · rw [if_pos c2] at h
      cases h
  · rw [if_pos c1] at h
    cases h
set_option maxRecDepth 100000 in
set_option maxHeartbeats 4000000 in
theorem n_X5_change (l : Launch) (P : Pl) (hA : Adr P) (hn : 26 ≤ P.2.2.2.1) (w : Wo) (x1 : Int32) (x2 : Int32) (x3 : Int32) {r : Wo} (h : F_X5_change w x1 x2 x3 = some (Sum.inr r)) : CtV l P yX5_change cX5_change 4 none 7 [.ref (P.2.1 0), .int x1, .int x2, .int x3] w r := by
  have hlt : ∀ h, h < 26 → h < P.2.2.2.1 := fun h q => Nat.lt_of_lt_of_le q hn
  refine vs_met hA (by decide +kernel) (Nat.le_of_ble_eq_true rfl) (fun p e s m args below meth c ls S hF hP hl hr hk => ?_)
  have hx := S.1
  have hb := S.2.1
  replace hl : lv_has ls 4 [(0, .ref (P.2.1 0)), (1, .int x1), (2, .int x2), (3, .int x3)] := hl
  unfold F_X5_change at h
  refine lv_aload_n hx hb dX5_change_0 rfl (lv_at hl 0 rfl) ?_
  refine lv_iload_n hx hb dX5_change_1 rfl (lv_at hl 1 rfl) ?_
  refine lv_iload_n hx hb dX5_change_2 rfl (lv_at hl 2 rfl) ?_
  refine lv_iload_n hx hb dX5_change_3 rfl (lv_at hl 3 rfl) ?_
  obtain ⟨q1, hq1, h⟩ := ob h
  refine vu_i hP (vu_V S hF hP (h := 0) (hlt _ (by decide)) rfl (by decide) rfl (c_X5_judge l P hA hn w x1 x2 x3 hq1) ok_X5_judge ml_X5_328 ⟨Nat.le_of_ble_eq_true rfl, Nat.le_of_ble_eq_true rfl⟩ rfl hl.1 rfl (Nat.le_of_ble_eq_true rfl) dX5_change_4 ⟨Nat.le_of_ble_eq_true rfl, Nat.le_of_ble_eq_true rfl⟩) (fun H locs ho2 hP => ?_)
  obtain ⟨q3, hq3, h⟩ := ob h
  cases q3 with
  | inl u => cases h
  | inr v4 =>
    rw [Sum.elim_inr] at h
    refine vu_v hP (vu_S S hF hP (n_X5_raise l P hA hn q1.2 q1.1 hq3) ok_X5_raise ml_X5_116 ⟨Nat.le_of_ble_eq_true rfl, Nat.le_of_ble_eq_true rfl⟩ rfl hl.1 rfl (Nat.le_of_ble_eq_true rfl) dX5_change_7 ⟨Nat.le_of_ble_eq_true rfl, Nat.le_of_ble_eq_true rfl⟩) (fun H locs hP => ?_)
    refine lv_aload_n hx hb dX5_change_10 rfl (lv_at hl 0 rfl) ?_
    refine vt_getR (r := 4) S hF hP (k := 3) (ci := 5) 0 (hlt _ (by decide)) rfl (by decide) rfl (by decide) rfl rfl (inC_X5 _) (List.mem_cons_of_mem _ fl_X5_25) dX5_change_11 ?_
    refine lv_aload_n hx hb dX5_change_14 rfl (lv_at hl 0 rfl) ?_
    refine vt_getR (r := 1) S hF hP (k := 0) (ci := 5) 0 (hlt _ (by decide)) rfl (by decide) rfl (by decide) rfl rfl (inC_X5 _) (List.mem_cons_of_mem _ fl_X5_12) dX5_change_15 ?_
    obtain ⟨q5, hq5, h⟩ := ob h
    refine vu_v hP (vu_V S hF hP (h := 4) (hlt _ (by decide)) rfl (by decide) rfl (c_X2_keep l P hA hn 1 rfl (by decide) v4 hq5) ok_X2_keep ml_X5_134 ⟨Nat.le_of_ble_eq_true rfl, Nat.le_of_ble_eq_true rfl⟩ rfl hl.1 rfl (Nat.le_of_ble_eq_true rfl) dX5_change_18 ⟨Nat.le_of_ble_eq_true rfl, Nat.le_of_ble_eq_true rfl⟩) (fun H locs hP => ?_)
    refine lv_aload_n hx hb dX5_change_21 rfl (lv_at hl 0 rfl) ?_
    refine lv_iload_n hx hb dX5_change_22 rfl (lv_at hl 1 rfl) ?_
    refine lv_iload_n hx hb dX5_change_23 rfl (lv_at hl 2 rfl) ?_
    refine lv_iload_n hx hb dX5_change_24 rfl (lv_at hl 3 rfl) ?_
    obtain ⟨q6, hq6, h⟩ := ob h
    refine vu_v hP (vu_V S hF hP (h := 0) (hlt _ (by decide)) rfl (by decide) rfl (c_X5_carryOut l P hA hn q5 x1 x2 x3 hq6) ok_X5_carryOut ml_X5_331 ⟨Nat.le_of_ble_eq_true rfl, Nat.le_of_ble_eq_true rfl⟩ rfl hl.1 rfl (Nat.le_of_ble_eq_true rfl) dX5_change_25 ⟨Nat.le_of_ble_eq_true rfl, Nat.le_of_ble_eq_true rfl⟩) (fun H locs hP => ?_)
    obtain rfl := Sum.inr.inj (Option.some.inj h)
    exact ve_v S hF hP hr hk dX5_change_28
set_option maxRecDepth 100000 in
set_option maxHeartbeats 4000000 in
theorem n_X5_board (l : Launch) (P : Pl) (hA : Adr P) (hn : 26 ≤ P.2.2.2.1) (w : Wo) (x1 : Int32) (x2 : Int32) {r : (Int32 × Wo)} (h : F_X5_board w x1 x2 = some (Sum.inr r)) : CtI l P yX5_board cX5_board 3 (some .int) 8 [.ref (P.2.1 0), .int x1, .int x2] w r.1 r.2 := by
  have hlt : ∀ h, h < 26 → h < P.2.2.2.1 := fun h q => Nat.lt_of_lt_of_le q hn
  refine vs_met hA (by decide +kernel) (Nat.le_of_ble_eq_true rfl) (fun p e s m args below meth c ls S hF hP hl hr hk => ?_)
  have hx := S.1
  have hb := S.2.1
  replace hl : lv_has ls 3 [(0, .ref (P.2.1 0)), (1, .int x1), (2, .int x2)] := hl
  unfold F_X5_board at h
  refine lv_aload_n hx hb dX5_board_0 rfl (lv_at hl 0 rfl) ?_
  refine lv_bipush (v := 98) hx hb dX5_board_1 (by decide) ?_
  refine lv_iload_n hx hb dX5_board_3 rfl (lv_at hl 1 rfl) ?_
  refine lv_iload_n hx hb dX5_board_4 rfl (lv_at hl 2 rfl) ?_
  obtain ⟨q1, hq1, h⟩ := ob h
  cases q1 with
  | inl u => cases h
  | inr v2 =>
    rw [Sum.elim_inr] at h
    refine vu_v hP (vu_V S hF hP (h := 0) (hlt _ (by decide)) rfl (by decide) rfl (n_X5_change l P hA hn w 98 x1 x2 hq1) ok_X5_change ml_X5_75 ⟨Nat.le_of_ble_eq_true rfl, Nat.le_of_ble_eq_true rfl⟩ rfl hl.1 rfl (Nat.le_of_ble_eq_true rfl) dX5_board_5 ⟨Nat.le_of_ble_eq_true rfl, Nat.le_of_ble_eq_true rfl⟩) (fun H locs hP => ?_)
    refine lv_aload_n hx hb dX5_board_8 rfl (lv_at hl 0 rfl) ?_
    refine vt_getR (r := 1) S hF hP (k := 0) (ci := 5) 0 (hlt _ (by decide)) rfl (by decide) rfl (by decide) rfl rfl (inC_X5 _) (List.mem_cons_of_mem _ fl_X5_12) dX5_board_9 ?_
    refine vu_i hP (vu_V S hF hP (h := 1) (hlt _ (by decide)) rfl (by decide) rfl (c_X0_places l P hA hn v2) ok_X0_places ml_X5_79 ⟨Nat.le_of_ble_eq_true rfl, Nat.le_of_ble_eq_true rfl⟩ rfl hl.1 rfl (Nat.le_of_ble_eq_true rfl) dX5_board_12 ⟨Nat.le_of_ble_eq_true rfl, Nat.le_of_ble_eq_true rfl⟩) (fun H locs ho3 hP => ?_)
    obtain rfl := Sum.inr.inj (Option.some.inj h)
    exact ve_i (v := (F_X0_places v2)) S hF hP hr hk rfl dX5_board_15
set_option maxRecDepth 100000 in
set_option maxHeartbeats 4000000 in
theorem n_X5_put (l : Launch) (P : Pl) (hA : Adr P) (hn : 26 ≤ P.2.2.2.1) (w : Wo) (x1 : Int32) (x2 : Int32) {r : (Int32 × Wo)} (h : F_X5_put w x1 x2 = some (Sum.inr r)) : CtI l P yX5_put cX5_put 5 (some .char) 8 [.ref (P.2.1 0), .int x1, .int x2] w r.1 r.2 := by
  have hlt : ∀ h, h < 26 → h < P.2.2.2.1 := fun h q => Nat.lt_of_lt_of_le q hn
  refine vs_met hA (by decide +kernel) (Nat.le_of_ble_eq_true rfl) (fun p e s m args below meth c ls S hF hP hl hr hk => ?_)
  have hx := S.1
  have hb := S.2.1
  replace hl : lv_has ls 5 [(0, .ref (P.2.1 0)), (1, .int x1), (2, .int x2)] := hl
  unfold F_X5_put at h
  refine lv_aload_n hx hb dX5_put_0 rfl (lv_at hl 0 rfl) ?_
  refine vt_getR (r := 1) S hF hP (k := 0) (ci := 5) 0 (hlt _ (by decide)) rfl (by decide) rfl (by decide) rfl rfl (inC_X5 _) (List.mem_cons_of_mem _ fl_X5_12) dX5_put_1 ?_
  refine vt_getL S hF hP (k := 2) (ci := 0) 1 (hlt _ (by decide)) rfl (by decide) rfl (by decide) rfl (inC_X0 _) (List.mem_cons_of_mem _ fl_X5_83) dX5_put_4 ?_
  refine lv_lstore_n (lv' := [(3, .long (gL w 1 2)), (0, .ref (P.2.1 0)), (1, .int x1), (2, .int x2)]) hx hb dX5_put_7 rfl hl (by decide) rfl (fun ls hl => ?_)
  refine lv_aload_n hx hb dX5_put_8 rfl (lv_at hl 1 rfl) ?_
  refine lv_bipush (v := 112) hx hb dX5_put_9 (by decide) ?_
  refine lv_iload_n hx hb dX5_put_11 rfl (lv_at hl 2 rfl) ?_
  refine lv_iload_n hx hb dX5_put_12 rfl (lv_at hl 3 rfl) ?_
  refine vu_i hP (vu_S S hF hP (c_X5_codeOf l P hA hn w x2) ok_X5_codeOf ml_X5_87 ⟨Nat.le_of_ble_eq_true rfl, Nat.le_of_ble_eq_true rfl⟩ rfl hl.1 rfl (Nat.le_of_ble_eq_true rfl) dX5_put_13 ⟨Nat.le_of_ble_eq_true rfl, Nat.le_of_ble_eq_true rfl⟩) (fun H locs ho1 hP => ?_)
  obtain ⟨q2, hq2, h⟩ := ob h
  cases q2 with
  | inl u => cases h
  | inr v3 =>
    rw [Sum.elim_inr] at h
    refine vu_v hP (vu_V S hF hP (h := 0) (hlt _ (by decide)) rfl (by decide) rfl (n_X5_change l P hA hn w 112 x1 (F_X5_codeOf x2) hq2) ok_X5_change ml_X5_75 ⟨Nat.le_of_ble_eq_true rfl, Nat.le_of_ble_eq_true rfl⟩ rfl hl.1 rfl (Nat.le_of_ble_eq_true rfl) dX5_put_16 ⟨Nat.le_of_ble_eq_true rfl, Nat.le_of_ble_eq_true rfl⟩) (fun H locs hP => ?_)
    refine lv_lload_n hx hb dX5_put_19 rfl (lv_at hl 0 rfl) ?_
    refine lv_iload_n hx hb dX5_put_20 rfl (lv_at hl 2 rfl) ?_
    refine vu_i hP (vu_S S hF hP (c_X5_codeAt l P hA hn v3 (gL w 1 2) x1) ok_X5_codeAt ml_X5_91 ⟨Nat.le_of_ble_eq_true rfl, Nat.le_of_ble_eq_true rfl⟩ rfl hl.1 rfl (Nat.le_of_ble_eq_true rfl) dX5_put_21 ⟨Nat.le_of_ble_eq_true rfl, Nat.le_of_ble_eq_true rfl⟩) (fun H locs ho4 hP => ?_)
    refine vu_i hP (vu_S S hF hP (c_X5_signOf l P hA hn v3 (F_X5_codeAt (gL w 1 2) x1)) ok_X5_signOf ml_X5_95 ⟨Nat.le_of_ble_eq_true rfl, Nat.le_of_ble_eq_true rfl⟩ rfl hl.1 rfl (Nat.le_of_ble_eq_true rfl) dX5_put_24 ⟨Nat.le_of_ble_eq_true rfl, Nat.le_of_ble_eq_true rfl⟩) (fun H locs ho5 hP => ?_)
    obtain rfl := Sum.inr.inj (Option.some.inj h)
    exact ve_i (v := (F_X5_signOf (F_X5_codeAt (gL w 1 2) x1))) S hF hP hr hk ho5 dX5_put_27
set_option maxRecDepth 100000 in
set_option maxHeartbeats 4000000 in
theorem n_X5_goal (l : Launch) (P : Pl) (hA : Adr P) (hn : 26 ≤ P.2.2.2.1) (w : Wo) (x1 : Int32) (x2 : Int32) {r : (Int32 × Wo)} (h : F_X5_goal w x1 x2 = some (Sum.inr r)) : CtI l P yX5_goal cX5_goal 5 (some .char) 8 [.ref (P.2.1 0), .int x1, .int x2] w r.1 r.2 := by
  have hlt : ∀ h, h < 26 → h < P.2.2.2.1 := fun h q => Nat.lt_of_lt_of_le q hn
  refine vs_met hA (by decide +kernel) (Nat.le_of_ble_eq_true rfl) (fun p e s m args below meth c ls S hF hP hl hr hk => ?_)
  have hx := S.1
  have hb := S.2.1
  replace hl : lv_has ls 5 [(0, .ref (P.2.1 0)), (1, .int x1), (2, .int x2)] := hl
  unfold F_X5_goal at h
  refine lv_aload_n hx hb dX5_goal_0 rfl (lv_at hl 0 rfl) ?_
  refine vt_getR (r := 1) S hF hP (k := 0) (ci := 5) 0 (hlt _ (by decide)) rfl (by decide) rfl (by decide) rfl rfl (inC_X5 _) (List.mem_cons_of_mem _ fl_X5_12) dX5_goal_1 ?_
  refine vt_getL S hF hP (k := 3) (ci := 0) 1 (hlt _ (by decide)) rfl (by decide) rfl (by decide) rfl (inC_X0 _) (List.mem_cons_of_mem _ fl_X5_99) dX5_goal_4 ?_
  refine lv_lstore_n (lv' := [(3, .long (gL w 1 3)), (0, .ref (P.2.1 0)), (1, .int x1), (2, .int x2)]) hx hb dX5_goal_7 rfl hl (by decide) rfl (fun ls hl => ?_)
  refine lv_aload_n hx hb dX5_goal_8 rfl (lv_at hl 1 rfl) ?_
  refine lv_bipush (v := 103) hx hb dX5_goal_9 (by decide) ?_
  refine lv_iload_n hx hb dX5_goal_11 rfl (lv_at hl 2 rfl) ?_
  refine lv_iload_n hx hb dX5_goal_12 rfl (lv_at hl 3 rfl) ?_
  refine vu_i hP (vu_S S hF hP (c_X5_codeOf l P hA hn w x2) ok_X5_codeOf ml_X5_87 ⟨Nat.le_of_ble_eq_true rfl, Nat.le_of_ble_eq_true rfl⟩ rfl hl.1 rfl (Nat.le_of_ble_eq_true rfl) dX5_goal_13 ⟨Nat.le_of_ble_eq_true rfl, Nat.le_of_ble_eq_true rfl⟩) (fun H locs ho1 hP => ?_)
  obtain ⟨q2, hq2, h⟩ := ob h
  cases q2 with
  | inl u => cases h
  | inr v3 =>
    rw [Sum.elim_inr] at h
    refine vu_v hP (vu_V S hF hP (h := 0) (hlt _ (by decide)) rfl (by decide) rfl (n_X5_change l P hA hn w 103 x1 (F_X5_codeOf x2) hq2) ok_X5_change ml_X5_75 ⟨Nat.le_of_ble_eq_true rfl, Nat.le_of_ble_eq_true rfl⟩ rfl hl.1 rfl (Nat.le_of_ble_eq_true rfl) dX5_goal_16 ⟨Nat.le_of_ble_eq_true rfl, Nat.le_of_ble_eq_true rfl⟩) (fun H locs hP => ?_)
    refine lv_lload_n hx hb dX5_goal_19 rfl (lv_at hl 0 rfl) ?_
    refine lv_iload_n hx hb dX5_goal_20 rfl (lv_at hl 2 rfl) ?_
    refine vu_i hP (vu_S S hF hP (c_X5_codeAt l P hA hn v3 (gL w 1 3) x1) ok_X5_codeAt ml_X5_91 ⟨Nat.le_of_ble_eq_true rfl, Nat.le_of_ble_eq_true rfl⟩ rfl hl.1 rfl (Nat.le_of_ble_eq_true rfl) dX5_goal_21 ⟨Nat.le_of_ble_eq_true rfl, Nat.le_of_ble_eq_true rfl⟩) (fun H locs ho4 hP => ?_)
    refine vu_i hP (vu_S S hF hP (c_X5_signOf l P hA hn v3 (F_X5_codeAt (gL w 1 3) x1)) ok_X5_signOf ml_X5_95 ⟨Nat.le_of_ble_eq_true rfl, Nat.le_of_ble_eq_true rfl⟩ rfl hl.1 rfl (Nat.le_of_ble_eq_true rfl) dX5_goal_24 ⟨Nat.le_of_ble_eq_true rfl, Nat.le_of_ble_eq_true rfl⟩) (fun H locs ho5 hP => ?_)
    obtain rfl := Sum.inr.inj (Option.some.inj h)
    exact ve_i (v := (F_X5_signOf (F_X5_codeAt (gL w 1 3) x1))) S hF hP hr hk ho5 dX5_goal_27
set_option maxRecDepth 100000 in
set_option maxHeartbeats 4000000 in
theorem n_X5_turn (l : Launch) (P : Pl) (hA : Adr P) (hn : 26 ≤ P.2.2.2.1) (w : Wo) (x1 : Int32) {r : (Int32 × Wo)} (h : F_X5_turn w x1 = some (Sum.inr r)) : CtI l P yX5_turn cX5_turn 2 (some .int) 8 [.ref (P.2.1 0), .int x1] w r.1 r.2 := by
  have hlt : ∀ h, h < 26 → h < P.2.2.2.1 := fun h q => Nat.lt_of_lt_of_le q hn
  refine vs_met hA (by decide +kernel) (Nat.le_of_ble_eq_true rfl) (fun p e s m args below meth c ls S hF hP hl hr hk => ?_)
  have hx := S.1
  have hb := S.2.1
  replace hl : lv_has ls 2 [(0, .ref (P.2.1 0)), (1, .int x1)] := hl
  unfold F_X5_turn at h
  refine lv_aload_n hx hb dX5_turn_0 rfl (lv_at hl 0 rfl) ?_
  refine lv_bipush (v := 116) hx hb dX5_turn_1 (by decide) ?_
  refine lv_iload_n hx hb dX5_turn_3 rfl (lv_at hl 1 rfl) ?_
  refine lv_iconst (v := 0) hx hb dX5_turn_4 (by decide) ?_
  obtain ⟨q1, hq1, h⟩ := ob h
  cases q1 with
  | inl u => cases h
  | inr v2 =>
    rw [Sum.elim_inr] at h
    refine vu_v hP (vu_V S hF hP (h := 0) (hlt _ (by decide)) rfl (by decide) rfl (n_X5_change l P hA hn w 116 x1 0 hq1) ok_X5_change ml_X5_75 ⟨Nat.le_of_ble_eq_true rfl, Nat.le_of_ble_eq_true rfl⟩ rfl hl.1 rfl (Nat.le_of_ble_eq_true rfl) dX5_turn_5 ⟨Nat.le_of_ble_eq_true rfl, Nat.le_of_ble_eq_true rfl⟩) (fun H locs hP => ?_)
    refine lv_aload_n hx hb dX5_turn_8 rfl (lv_at hl 0 rfl) ?_
    refine vt_getR (r := 1) S hF hP (k := 0) (ci := 5) 0 (hlt _ (by decide)) rfl (by decide) rfl (by decide) rfl rfl (inC_X5 _) (List.mem_cons_of_mem _ fl_X5_12) dX5_turn_9 ?_
    refine lv_aload_n hx hb dX5_turn_12 rfl (lv_at hl 0 rfl) ?_
    refine vt_getR (r := 1) S hF hP (k := 0) (ci := 5) 0 (hlt _ (by decide)) rfl (by decide) rfl (by decide) rfl rfl (inC_X5 _) (List.mem_cons_of_mem _ fl_X5_12) dX5_turn_13 ?_
    refine vt_getL S hF hP (k := 2) (ci := 0) 1 (hlt _ (by decide)) rfl (by decide) rfl (by decide) rfl (inC_X0 _) (List.mem_cons_of_mem _ fl_X5_83) dX5_turn_16 ?_
    obtain ⟨q3, hq3, h⟩ := ob h
    refine vu_i hP (vu_V S hF hP (h := 1) (hlt _ (by decide)) rfl (by decide) rfl (c_X0_atHome l P hA hn v2 (gL v2 1 2) hq3) ok_X0_atHome ml_X5_102 ⟨Nat.le_of_ble_eq_true rfl, Nat.le_of_ble_eq_true rfl⟩ rfl hl.1 rfl (Nat.le_of_ble_eq_true rfl) dX5_turn_19 ⟨Nat.le_of_ble_eq_true rfl, Nat.le_of_ble_eq_true rfl⟩) (fun H locs ho4 hP => ?_)
    obtain rfl := Sum.inr.inj (Option.some.inj h)
    exact ve_i (v := q3) S hF hP hr hk rfl dX5_turn_22
set_option maxRecDepth 100000 in
set_option maxHeartbeats 4000000 in
theorem n_X5_swap (l : Launch) (P : Pl) (hA : Adr P) (hn : 26 ≤ P.2.2.2.1) (w : Wo) (x1 : Int32) (x2 : Int32) {r : (Int32 × Wo)} (h : F_X5_swap w x1 x2 = some (Sum.inr r)) : CtI l P yX5_swap cX5_swap 3 (some .int) 8 [.ref (P.2.1 0), .int x1, .int x2] w r.1 r.2 := by
  have hlt : ∀ h, h < 26 → h < P.2.2.2.1 := fun h q => Nat.lt_of_lt_of_le q hn
  refine vs_met hA (by decide +kernel) (Nat.le_of_ble_eq_true rfl) (fun p e s m args below meth c ls S hF hP hl hr hk => ?_)
  have hx := S.1
  have hb := S.2.1
  replace hl : lv_has ls 3 [(0, .ref (P.2.1 0)), (1, .int x1), (2, .int x2)] := hl
  unfold F_X5_swap at h
  refine lv_aload_n hx hb dX5_swap_0 rfl (lv_at hl 0 rfl) ?_
  refine lv_bipush (v := 115) hx hb dX5_swap_1 (by decide) ?_
  refine lv_iload_n hx hb dX5_swap_3 rfl (lv_at hl 1 rfl) ?_
  refine lv_iload_n hx hb dX5_swap_4 rfl (lv_at hl 2 rfl) ?_
  obtain ⟨q1, hq1, h⟩ := ob h
  cases q1 with
  | inl u => cases h
  | inr v2 =>
    rw [Sum.elim_inr] at h
    refine vu_v hP (vu_V S hF hP (h := 0) (hlt _ (by decide)) rfl (by decide) rfl (n_X5_change l P hA hn w 115 x1 x2 hq1) ok_X5_change ml_X5_75 ⟨Nat.le_of_ble_eq_true rfl, Nat.le_of_ble_eq_true rfl⟩ rfl hl.1 rfl (Nat.le_of_ble_eq_true rfl) dX5_swap_5 ⟨Nat.le_of_ble_eq_true rfl, Nat.le_of_ble_eq_true rfl⟩) (fun H locs hP => ?_)
    refine lv_aload_n hx hb dX5_swap_8 rfl (lv_at hl 0 rfl) ?_
    refine vt_getR (r := 1) S hF hP (k := 0) (ci := 5) 0 (hlt _ (by decide)) rfl (by decide) rfl (by decide) rfl rfl (inC_X5 _) (List.mem_cons_of_mem _ fl_X5_12) dX5_swap_9 ?_
    refine lv_aload_n hx hb dX5_swap_12 rfl (lv_at hl 0 rfl) ?_
    refine vt_getR (r := 1) S hF hP (k := 0) (ci := 5) 0 (hlt _ (by decide)) rfl (by decide) rfl (by decide) rfl rfl (inC_X5 _) (List.mem_cons_of_mem _ fl_X5_12) dX5_swap_13 ?_
    refine vt_getL S hF hP (k := 2) (ci := 0) 1 (hlt _ (by decide)) rfl (by decide) rfl (by decide) rfl (inC_X0 _) (List.mem_cons_of_mem _ fl_X5_83) dX5_swap_16 ?_
    obtain ⟨q3, hq3, h⟩ := ob h
    refine vu_i hP (vu_V S hF hP (h := 1) (hlt _ (by decide)) rfl (by decide) rfl (c_X0_atHome l P hA hn v2 (gL v2 1 2) hq3) ok_X0_atHome ml_X5_102 ⟨Nat.le_of_ble_eq_true rfl, Nat.le_of_ble_eq_true rfl⟩ rfl hl.1 rfl (Nat.le_of_ble_eq_true rfl) dX5_swap_19 ⟨Nat.le_of_ble_eq_true rfl, Nat.le_of_ble_eq_true rfl⟩) (fun H locs ho4 hP => ?_)
    obtain rfl := Sum.inr.inj (Option.some.inj h)
    exact ve_i (v := q3) S hF hP hr hk rfl dX5_swap_22
set_option maxRecDepth 100000 in
set_option maxHeartbeats 4000000 in
theorem n_X5_bar (l : Launch) (P : Pl) (hA : Adr P) (hn : 26 ≤ P.2.2.2.1) (w : Wo) (x1 : Int32) {r : (Int32 × Wo)} (h : F_X5_bar w x1 = some (Sum.inr r)) : CtI l P yX5_bar cX5_bar 2 (some .boolean) 8 [.ref (P.2.1 0), .int x1] w r.1 r.2 := by
  have hlt : ∀ h, h < 26 → h < P.2.2.2.1 := fun h q => Nat.lt_of_lt_of_le q hn
  refine vs_met hA (by decide +kernel) (Nat.le_of_ble_eq_true rfl) (fun p e s m args below meth c ls S hF hP hl hr hk => ?_)
  have hx := S.1
  have hb := S.2.1
  replace hl : lv_has ls 2 [(0, .ref (P.2.1 0)), (1, .int x1)] := hl
  unfold F_X5_bar at h
  refine lv_aload_n hx hb dX5_bar_0 rfl (lv_at hl 0 rfl) ?_
  refine lv_bipush (v := 120) hx hb dX5_bar_1 (by decide) ?_
  refine lv_iload_n hx hb dX5_bar_3 rfl (lv_at hl 1 rfl) ?_
  refine lv_iconst (v := 0) hx hb dX5_bar_4 (by decide) ?_
  obtain ⟨q1, hq1, h⟩ := ob h
  cases q1 with
  | inl u => cases h
  | inr v2 =>
    rw [Sum.elim_inr] at h
    refine vu_v hP (vu_V S hF hP (h := 0) (hlt _ (by decide)) rfl (by decide) rfl (n_X5_change l P hA hn w 120 x1 0 hq1) ok_X5_change ml_X5_75 ⟨Nat.le_of_ble_eq_true rfl, Nat.le_of_ble_eq_true rfl⟩ rfl hl.1 rfl (Nat.le_of_ble_eq_true rfl) dX5_bar_5 ⟨Nat.le_of_ble_eq_true rfl, Nat.le_of_ble_eq_true rfl⟩) (fun H locs hP => ?_)
    refine lv_aload_n hx hb dX5_bar_8 rfl (lv_at hl 0 rfl) ?_
    refine vt_getR (r := 1) S hF hP (k := 0) (ci := 5) 0 (hlt _ (by decide)) rfl (by decide) rfl (by decide) rfl rfl (inC_X5 _) (List.mem_cons_of_mem _ fl_X5_12) dX5_bar_9 ?_
    refine lv_iload_n hx hb dX5_bar_12 rfl (lv_at hl 1 rfl) ?_
    refine vu_i hP (vu_V S hF hP (h := 1) (hlt _ (by decide)) rfl (by decide) rfl (c_X0_hasBar l P hA hn v2 x1) ok_X0_hasBar ml_X5_106 ⟨Nat.le_of_ble_eq_true rfl, Nat.le_of_ble_eq_true rfl⟩ rfl hl.1 rfl (Nat.le_of_ble_eq_true rfl) dX5_bar_13 ⟨Nat.le_of_ble_eq_true rfl, Nat.le_of_ble_eq_true rfl⟩) (fun H locs ho3 hP => ?_)
    obtain rfl := Sum.inr.inj (Option.some.inj h)
    exact ve_i (v := (F_X0_hasBar v2 x1)) S hF hP hr hk ho3 dX5_bar_16
set_option maxRecDepth 100000 in
set_option maxHeartbeats 4000000 in
theorem n_X5_scramble (l : Launch) (P : Pl) (hA : Adr P) (hn : 26 ≤ P.2.2.2.1) (w : Wo) (x1 : Int32) (x2 : Int32) {r : (Int32 × Wo)} (h : F_X5_scramble w x1 x2 = some (Sum.inr r)) : CtI l P yX5_scramble cX5_scramble 4 (some .int) 8 [.ref (P.2.1 0), .int x1, .int x2] w r.1 r.2 := by
  have hlt : ∀ h, h < 26 → h < P.2.2.2.1 := fun h q => Nat.lt_of_lt_of_le q hn
  refine vs_met hA (by decide +kernel) (Nat.le_of_ble_eq_true rfl) (fun p e s m args below meth c ls S hF hP hl hr hk => ?_)
  have hx := S.1
  have hb := S.2.1
  replace hl : lv_has ls 4 [(0, .ref (P.2.1 0)), (1, .int x1), (2, .int x2)] := hl
  unfold F_X5_scramble at h
  refine lv_aload_n hx hb dX5_scramble_0 rfl (lv_at hl 0 rfl) ?_
  refine vt_getR (r := 1) S hF hP (k := 0) (ci := 5) 0 (hlt _ (by decide)) rfl (by decide) rfl (by decide) rfl rfl (inC_X5 _) (List.mem_cons_of_mem _ fl_X5_12) dX5_scramble_1 ?_
  refine vt_getI S hF hP (k := 5) (ci := 0) 1 (hlt _ (by decide)) rfl (by decide) rfl (by decide) rfl (inC_X0 _) (List.mem_cons_of_mem _ fl_X5_110) dX5_scramble_4 ?_
  refine lv_istore_n (lv' := [(3, .int (gI w 1 5)), (0, .ref (P.2.1 0)), (1, .int x1), (2, .int x2)]) hx hb dX5_scramble_7 rfl hl (by decide) rfl (fun ls hl => ?_)
  refine lv_aload_n hx hb dX5_scramble_8 rfl (lv_at hl 1 rfl) ?_
  refine lv_bipush (v := 114) hx hb dX5_scramble_9 (by decide) ?_
  refine lv_iload_n hx hb dX5_scramble_11 rfl (lv_at hl 2 rfl) ?_
  refine lv_iload_n hx hb dX5_scramble_12 rfl (lv_at hl 3 rfl) ?_
  obtain ⟨q1, hq1, h⟩ := ob h
  cases q1 with
  | inl u => cases h
  | inr v2 =>
    rw [Sum.elim_inr] at h
    refine vu_v hP (vu_V S hF hP (h := 0) (hlt _ (by decide)) rfl (by decide) rfl (n_X5_change l P hA hn w 114 x1 x2 hq1) ok_X5_change ml_X5_75 ⟨Nat.le_of_ble_eq_true rfl, Nat.le_of_ble_eq_true rfl⟩ rfl hl.1 rfl (Nat.le_of_ble_eq_true rfl) dX5_scramble_13 ⟨Nat.le_of_ble_eq_true rfl, Nat.le_of_ble_eq_true rfl⟩) (fun H locs hP => ?_)
    refine lv_aload_n hx hb dX5_scramble_16 rfl (lv_at hl 1 rfl) ?_
    refine vt_getR (r := 1) S hF hP (k := 0) (ci := 5) 0 (hlt _ (by decide)) rfl (by decide) rfl (by decide) rfl rfl (inC_X5 _) (List.mem_cons_of_mem _ fl_X5_12) dX5_scramble_17 ?_
    refine vt_getI S hF hP (k := 5) (ci := 0) 1 (hlt _ (by decide)) rfl (by decide) rfl (by decide) rfl (inC_X0 _) (List.mem_cons_of_mem _ fl_X5_110) dX5_scramble_20 ?_
    refine lv_iload_n hx hb dX5_scramble_23 rfl (lv_at hl 0 rfl) ?_
    refine lv_isub hx hb dX5_scramble_24 ?_
    obtain rfl := Sum.inr.inj (Option.some.inj h)
    exact ve_i (v := ((gI v2 1 5) - (gI w 1 5))) S hF hP hr hk rfl dX5_scramble_25
set_option maxRecDepth 100000 in
set_option maxHeartbeats 4000000 in
theorem n_X5_step (l : Launch) (P : Pl) (hA : Adr P) (hn : 26 ≤ P.2.2.2.1) (w : Wo) {r : (Int32 × Wo)} (h : F_X5_step w = some (Sum.inr r)) : CtI l P yX5_step cX5_step 2 (some .int) 7 [.ref (P.2.1 0)] w r.1 r.2 := by
  have hlt : ∀ h, h < 26 → h < P.2.2.2.1 := fun h q => Nat.lt_of_lt_of_le q hn
  refine vs_met hA (by decide +kernel) (Nat.le_of_ble_eq_true rfl) (fun p e s m args below meth c ls S hF hP hl hr hk => ?_)
  have hx := S.1
  have hb := S.2.1
  replace hl : lv_has ls 2 [(0, .ref (P.2.1 0))] := hl
  have hB64 : ∀ (w : Wo) (x1 : Int32), B_X5_step_64 w x1 = some (Sum.inr r) → ∀ (H : Heap) (locs : List Loc) (ls : Array Slot), St P s w H locs → lv_has ls 2 [(0, .ref (P.2.1 0)), (1, .int x1)] → W p l e (rmU 7 0 0) s m args below meth c H locs 0 0 (QI P (some .int) r.1 r.2 below args s) (F0 m 64 ls []) := by
    intro w x1 h H locs ls hP hl
    unfold B_X5_step_64 at h
    refine lv_aload_n hx hb dX5_step_64 rfl (lv_at hl 0 rfl) ?_
    refine vt_getR (r := 1) S hF hP (k := 0) (ci := 5) 0 (hlt _ (by decide)) rfl (by decide) rfl (by decide) rfl rfl (inC_X5 _) (List.mem_cons_of_mem _ fl_X5_12) dX5_step_65 ?_
    refine lv_iload_n hx hb dX5_step_68 rfl (lv_at hl 1 rfl) ?_
    obtain ⟨q7, hq7, h⟩ := ob h
    refine vu_v hP (vu_V S hF hP (h := 1) (hlt _ (by decide)) rfl (by decide) rfl (c_X0_turnToGoal l P hA hn w x1 hq7) ok_X0_turnToGoal ml_X5_140 ⟨Nat.le_of_ble_eq_true rfl, Nat.le_of_ble_eq_true rfl⟩ rfl hl.1 rfl (Nat.le_of_ble_eq_true rfl) dX5_step_69 ⟨Nat.le_of_ble_eq_true rfl, Nat.le_of_ble_eq_true rfl⟩) (fun H locs hP => ?_)
    refine lv_iload_n hx hb dX5_step_72 rfl (lv_at hl 1 rfl) ?_
    obtain rfl := Sum.inr.inj (Option.some.inj h)
    exact ve_i (v := x1) S hF hP hr hk rfl dX5_step_73
  unfold F_X5_step at h
  refine lv_aload_n hx hb dX5_step_0 rfl (lv_at hl 0 rfl) ?_
  obtain ⟨q1, hq1, h⟩ := ob h
  refine vu_i hP (vu_V S hF hP (h := 0) (hlt _ (by decide)) rfl (by decide) rfl (c_X5_judgeStep l P hA hn w hq1) ok_X5_judgeStep ml_X5_113 ⟨Nat.le_of_ble_eq_true rfl, Nat.le_of_ble_eq_true rfl⟩ rfl hl.1 rfl (Nat.le_of_ble_eq_true rfl) dX5_step_1 ⟨Nat.le_of_ble_eq_true rfl, Nat.le_of_ble_eq_true rfl⟩) (fun H locs ho2 hP => ?_)
  obtain ⟨q3, hq3, h⟩ := ob h
  cases q3 with
  | inl u => cases h
  | inr v4 =>
    rw [Sum.elim_inr] at h
    refine vu_v hP (vu_S S hF hP (n_X5_raise l P hA hn q1.2 q1.1 hq3) ok_X5_raise ml_X5_116 ⟨Nat.le_of_ble_eq_true rfl, Nat.le_of_ble_eq_true rfl⟩ rfl hl.1 rfl (Nat.le_of_ble_eq_true rfl) dX5_step_4 ⟨Nat.le_of_ble_eq_true rfl, Nat.le_of_ble_eq_true rfl⟩) (fun H locs hP => ?_)
    refine lv_aload_n hx hb dX5_step_7 rfl (lv_at hl 0 rfl) ?_
    refine vt_getR (r := 14) S hF hP (k := 4) (ci := 5) 0 (hlt _ (by decide)) rfl (by decide) rfl (by decide) rfl rfl (inC_X5 _) (List.mem_cons_of_mem _ fl_X5_32) dX5_step_8 ?_
    refine lv_aload_n hx hb dX5_step_11 rfl (lv_at hl 0 rfl) ?_
    refine vt_getR (r := 1) S hF hP (k := 0) (ci := 5) 0 (hlt _ (by decide)) rfl (by decide) rfl (by decide) rfl rfl (inC_X5 _) (List.mem_cons_of_mem _ fl_X5_12) dX5_step_12 ?_
    obtain ⟨q5, hq5, h⟩ := ob h
    refine vu_v hP (vu_V S hF hP (h := 14) (hlt _ (by decide)) rfl (by decide) rfl (c_X1_search l P hA hn v4 hq5) ok_X1_search ml_X5_120 ⟨Nat.le_of_ble_eq_true rfl, Nat.le_of_ble_eq_true rfl⟩ rfl hl.1 rfl (Nat.le_of_ble_eq_true rfl) dX5_step_15 ⟨Nat.le_of_ble_eq_true rfl, Nat.le_of_ble_eq_true rfl⟩) (fun H locs hP => ?_)
    refine lv_aload_n hx hb dX5_step_18 rfl (lv_at hl 0 rfl) ?_
    refine vt_getR (r := 14) S hF hP (k := 4) (ci := 5) 0 (hlt _ (by decide)) rfl (by decide) rfl (by decide) rfl rfl (inC_X5 _) (List.mem_cons_of_mem _ fl_X5_32) dX5_step_19 ?_
    refine vt_getI S hF hP (k := 7) (ci := 1) 14 (hlt _ (by decide)) rfl (by decide) rfl (by decide) rfl (inC_X1 _) (List.mem_cons_of_mem _ fl_X5_124) dX5_step_22 ?_
    refine lv_istore_n (lv' := [(1, .int (gI q5 14 7)), (0, .ref (P.2.1 0))]) hx hb dX5_step_25 rfl hl (by decide) rfl (fun ls hl => ?_)
    refine lv_iload_n hx hb dX5_step_26 rfl (lv_at hl 0 rfl) ?_
    refine lv_if_ge (tgt := 40) hx hb dX5_step_27 (by decide) (fun c8 => ?_) (fun c8 => ?_)
    · rw [if_pos c8] at h
      refine lv_aload_n hx hb dX5_step_40 rfl (lv_at hl 1 rfl) ?_
      refine vt_getR (r := 4) S hF hP (k := 3) (ci := 5) 0 (hlt _ (by decide)) rfl (by decide) rfl (by decide) rfl rfl (inC_X5 _) (List.mem_cons_of_mem _ fl_X5_25) dX5_step_41 ?_
      refine lv_aload_n hx hb dX5_step_44 rfl (lv_at hl 1 rfl) ?_
      refine vt_getR (r := 1) S hF hP (k := 0) (ci := 5) 0 (hlt _ (by decide)) rfl (by decide) rfl (by decide) rfl rfl (inC_X5 _) (List.mem_cons_of_mem _ fl_X5_12) dX5_step_45 ?_
      obtain ⟨q6, hq6, h⟩ := ob h
      refine vu_v hP (vu_V S hF hP (h := 4) (hlt _ (by decide)) rfl (by decide) rfl (c_X2_keep l P hA hn 1 rfl (by decide) q5 hq6) ok_X2_keep ml_X5_134 ⟨Nat.le_of_ble_eq_true rfl, Nat.le_of_ble_eq_true rfl⟩ rfl hl.1 rfl (Nat.le_of_ble_eq_true rfl) dX5_step_48 ⟨Nat.le_of_ble_eq_true rfl, Nat.le_of_ble_eq_true rfl⟩) (fun H locs hP => ?_)
      refine lv_aload_n hx hb dX5_step_51 rfl (lv_at hl 1 rfl) ?_
      refine vt_getR (r := 1) S hF hP (k := 0) (ci := 5) 0 (hlt _ (by decide)) rfl (by decide) rfl (by decide) rfl rfl (inC_X5 _) (List.mem_cons_of_mem _ fl_X5_12) dX5_step_52 ?_
      refine lv_dup hx hb dX5_step_55 rfl ?_
      refine vt_getI S hF hP (k := 8) (ci := 0) 1 (hlt _ (by decide)) rfl (by decide) rfl (by decide) rfl (inC_X0 _) (List.mem_cons_of_mem _ fl_X5_137) dX5_step_56 ?_
      refine lv_iconst (v := 1) hx hb dX5_step_59 (by decide) ?_
      refine lv_iadd hx hb dX5_step_60 ?_
      refine vt_putI S hF hP (k := 8) (ci := 0) 1 (hlt _ (by decide)) rfl (by decide) rfl (by decide) rfl tyX0 tyX0_ok nmX0 rfl rfl rfl rfl (by decide) (inC_X0 _) (List.mem_cons_of_mem _ fl_X5_137) dX5_step_61 (fun H locs hP => ?_)
      exact hB64 _ _ h _ _ _ hP (lv_sub hl [1, 0] rfl)
    · rw [if_neg c8] at h
      cases h
set_option maxRecDepth 100000 in
set_option maxHeartbeats 4000000 in
theorem n_X5_needIndex (l : Launch) (P : Pl) (hA : Adr P) (hn : 26 ≤ P.2.2.2.1) (w : Wo) (x0 : Int32) {r : Wo} (h : F_X5_needIndex w x0 = some (Sum.inr r)) : CtV l P yX5_needIndex cX5_needIndex 1 none 6 [.int x0] w r := by
  have hlt : ∀ h, h < 26 → h < P.2.2.2.1 := fun h q => Nat.lt_of_lt_of_le q hn
  refine vs_met hA (by decide +kernel) (Nat.le_of_ble_eq_true rfl) (fun p e s m args below meth c ls S hF hP hl hr hk => ?_)
  have hx := S.1
  have hb := S.2.1
  replace hl : lv_has ls 1 [(0, .int x0)] := hl
  unfold F_X5_needIndex at h
  refine lv_iload_n hx hb dX5_needIndex_0 rfl (lv_at hl 0 rfl) ?_
  refine lv_if_ne (tgt := 15) hx hb dX5_needIndex_1 (by decide) (fun c1 => ?_) (fun c1 => ?_)
  · rw [if_neg c1] at h
    obtain rfl := Sum.inr.inj (Option.some.inj h)
    exact ve_v S hF hP hr hk dX5_needIndex_15
  · rw [if_pos c1] at h
    cases h
set_option maxRecDepth 100000 in
set_option maxHeartbeats 4000000 in
theorem n_X5_letter (l : Launch) (P : Pl) (hA : Adr P) (hn : 26 ≤ P.2.2.2.1) (w : Wo) (x1 : Int32) {r : (Int32 × Wo)} (h : F_X5_letter w x1 = some (Sum.inr r)) : CtI l P yX5_letter cX5_letter 2 (some .char) 7 [.ref (P.2.1 0), .int x1] w r.1 r.2 := by
  have hlt : ∀ h, h < 26 → h < P.2.2.2.1 := fun h q => Nat.lt_of_lt_of_le q hn
  refine vs_met hA (by decide +kernel) (Nat.le_of_ble_eq_true rfl) (fun p e s m args below meth c ls S hF hP hl hr hk => ?_)
  have hx := S.1
  have hb := S.2.1
  replace hl : lv_has ls 2 [(0, .ref (P.2.1 0)), (1, .int x1)] := hl
  unfold F_X5_letter at h
  refine lv_aload_n hx hb dX5_letter_0 rfl (lv_at hl 0 rfl) ?_
  refine vt_getR (r := 1) S hF hP (k := 0) (ci := 5) 0 (hlt _ (by decide)) rfl (by decide) rfl (by decide) rfl rfl (inC_X5 _) (List.mem_cons_of_mem _ fl_X5_12) dX5_letter_1 ?_
  refine lv_iload_n hx hb dX5_letter_4 rfl (lv_at hl 1 rfl) ?_
  refine vu_i hP (vu_V S hF hP (h := 1) (hlt _ (by decide)) rfl (by decide) rfl (c_X0_hasPlace l P hA hn w x1) ok_X0_hasPlace ml_X5_143 ⟨Nat.le_of_ble_eq_true rfl, Nat.le_of_ble_eq_true rfl⟩ rfl hl.1 rfl (Nat.le_of_ble_eq_true rfl) dX5_letter_5 ⟨Nat.le_of_ble_eq_true rfl, Nat.le_of_ble_eq_true rfl⟩) (fun H locs ho1 hP => ?_)
  obtain ⟨q2, hq2, h⟩ := ob h
  cases q2 with
  | inl u => cases h
  | inr v3 =>
    rw [Sum.elim_inr] at h
    refine vu_v hP (vu_S S hF hP (n_X5_needIndex l P hA hn w (F_X0_hasPlace w x1) hq2) ok_X5_needIndex ml_X5_146 ⟨Nat.le_of_ble_eq_true rfl, Nat.le_of_ble_eq_true rfl⟩ rfl hl.1 rfl (Nat.le_of_ble_eq_true rfl) dX5_letter_8 ⟨Nat.le_of_ble_eq_true rfl, Nat.le_of_ble_eq_true rfl⟩) (fun H locs hP => ?_)
    refine lv_aload_n hx hb dX5_letter_11 rfl (lv_at hl 0 rfl) ?_
    refine vt_getR (r := 1) S hF hP (k := 0) (ci := 5) 0 (hlt _ (by decide)) rfl (by decide) rfl (by decide) rfl rfl (inC_X5 _) (List.mem_cons_of_mem _ fl_X5_12) dX5_letter_12 ?_
    refine vt_getL S hF hP (k := 2) (ci := 0) 1 (hlt _ (by decide)) rfl (by decide) rfl (by decide) rfl (inC_X0 _) (List.mem_cons_of_mem _ fl_X5_83) dX5_letter_15 ?_
    refine lv_iload_n hx hb dX5_letter_18 rfl (lv_at hl 1 rfl) ?_
    refine vu_i hP (vu_S S hF hP (c_X5_codeAt l P hA hn v3 (gL v3 1 2) x1) ok_X5_codeAt ml_X5_91 ⟨Nat.le_of_ble_eq_true rfl, Nat.le_of_ble_eq_true rfl⟩ rfl hl.1 rfl (Nat.le_of_ble_eq_true rfl) dX5_letter_19 ⟨Nat.le_of_ble_eq_true rfl, Nat.le_of_ble_eq_true rfl⟩) (fun H locs ho4 hP => ?_)
    refine vu_i hP (vu_S S hF hP (c_X5_signOf l P hA hn v3 (F_X5_codeAt (gL v3 1 2) x1)) ok_X5_signOf ml_X5_95 ⟨Nat.le_of_ble_eq_true rfl, Nat.le_of_ble_eq_true rfl⟩ rfl hl.1 rfl (Nat.le_of_ble_eq_true rfl) dX5_letter_22 ⟨Nat.le_of_ble_eq_true rfl, Nat.le_of_ble_eq_true rfl⟩) (fun H locs ho5 hP => ?_)
    obtain rfl := Sum.inr.inj (Option.some.inj h)
    exact ve_i (v := (F_X5_signOf (F_X5_codeAt (gL v3 1 2) x1))) S hF hP hr hk ho5 dX5_letter_25
set_option maxRecDepth 100000 in
set_option maxHeartbeats 4000000 in
theorem n_X5_sign (l : Launch) (P : Pl) (hA : Adr P) (hn : 26 ≤ P.2.2.2.1) (w : Wo) (x1 : Int32) {r : (Int32 × Wo)} (h : F_X5_sign w x1 = some (Sum.inr r)) : CtI l P yX5_sign cX5_sign 2 (some .char) 7 [.ref (P.2.1 0), .int x1] w r.1 r.2 := by
  have hlt : ∀ h, h < 26 → h < P.2.2.2.1 := fun h q => Nat.lt_of_lt_of_le q hn
  refine vs_met hA (by decide +kernel) (Nat.le_of_ble_eq_true rfl) (fun p e s m args below meth c ls S hF hP hl hr hk => ?_)
  have hx := S.1
  have hb := S.2.1
  replace hl : lv_has ls 2 [(0, .ref (P.2.1 0)), (1, .int x1)] := hl
  unfold F_X5_sign at h
  refine lv_aload_n hx hb dX5_sign_0 rfl (lv_at hl 0 rfl) ?_
  refine vt_getR (r := 1) S hF hP (k := 0) (ci := 5) 0 (hlt _ (by decide)) rfl (by decide) rfl (by decide) rfl rfl (inC_X5 _) (List.mem_cons_of_mem _ fl_X5_12) dX5_sign_1 ?_
  refine lv_iload_n hx hb dX5_sign_4 rfl (lv_at hl 1 rfl) ?_
  refine vu_i hP (vu_V S hF hP (h := 1) (hlt _ (by decide)) rfl (by decide) rfl (c_X0_hasPlace l P hA hn w x1) ok_X0_hasPlace ml_X5_143 ⟨Nat.le_of_ble_eq_true rfl, Nat.le_of_ble_eq_true rfl⟩ rfl hl.1 rfl (Nat.le_of_ble_eq_true rfl) dX5_sign_5 ⟨Nat.le_of_ble_eq_true rfl, Nat.le_of_ble_eq_true rfl⟩) (fun H locs ho1 hP => ?_)
  obtain ⟨q2, hq2, h⟩ := ob h
  cases q2 with
  | inl u => cases h
  | inr v3 =>
    rw [Sum.elim_inr] at h
    refine vu_v hP (vu_S S hF hP (n_X5_needIndex l P hA hn w (F_X0_hasPlace w x1) hq2) ok_X5_needIndex ml_X5_146 ⟨Nat.le_of_ble_eq_true rfl, Nat.le_of_ble_eq_true rfl⟩ rfl hl.1 rfl (Nat.le_of_ble_eq_true rfl) dX5_sign_8 ⟨Nat.le_of_ble_eq_true rfl, Nat.le_of_ble_eq_true rfl⟩) (fun H locs hP => ?_)
    refine lv_aload_n hx hb dX5_sign_11 rfl (lv_at hl 0 rfl) ?_
    refine vt_getR (r := 1) S hF hP (k := 0) (ci := 5) 0 (hlt _ (by decide)) rfl (by decide) rfl (by decide) rfl rfl (inC_X5 _) (List.mem_cons_of_mem _ fl_X5_12) dX5_sign_12 ?_
    refine vt_getL S hF hP (k := 3) (ci := 0) 1 (hlt _ (by decide)) rfl (by decide) rfl (by decide) rfl (inC_X0 _) (List.mem_cons_of_mem _ fl_X5_99) dX5_sign_15 ?_
    refine lv_iload_n hx hb dX5_sign_18 rfl (lv_at hl 1 rfl) ?_
    refine vu_i hP (vu_S S hF hP (c_X5_codeAt l P hA hn v3 (gL v3 1 3) x1) ok_X5_codeAt ml_X5_91 ⟨Nat.le_of_ble_eq_true rfl, Nat.le_of_ble_eq_true rfl⟩ rfl hl.1 rfl (Nat.le_of_ble_eq_true rfl) dX5_sign_19 ⟨Nat.le_of_ble_eq_true rfl, Nat.le_of_ble_eq_true rfl⟩) (fun H locs ho4 hP => ?_)
    refine vu_i hP (vu_S S hF hP (c_X5_signOf l P hA hn v3 (F_X5_codeAt (gL v3 1 3) x1)) ok_X5_signOf ml_X5_95 ⟨Nat.le_of_ble_eq_true rfl, Nat.le_of_ble_eq_true rfl⟩ rfl hl.1 rfl (Nat.le_of_ble_eq_true rfl) dX5_sign_22 ⟨Nat.le_of_ble_eq_true rfl, Nat.le_of_ble_eq_true rfl⟩) (fun H locs ho5 hP => ?_)
    obtain rfl := Sum.inr.inj (Option.some.inj h)
    exact ve_i (v := (F_X5_signOf (F_X5_codeAt (gL v3 1 3) x1))) S hF hP hr hk ho5 dX5_sign_25
set_option maxRecDepth 100000 in
set_option maxHeartbeats 4000000 in
theorem n_X5_isBarred (l : Launch) (P : Pl) (hA : Adr P) (hn : 26 ≤ P.2.2.2.1) (w : Wo) (x1 : Int32) {r : (Int32 × Wo)} (h : F_X5_isBarred w x1 = some (Sum.inr r)) : CtI l P yX5_isBarred cX5_isBarred 2 (some .boolean) 7 [.ref (P.2.1 0), .int x1] w r.1 r.2 := by
  have hlt : ∀ h, h < 26 → h < P.2.2.2.1 := fun h q => Nat.lt_of_lt_of_le q hn
  refine vs_met hA (by decide +kernel) (Nat.le_of_ble_eq_true rfl) (fun p e s m args below meth c ls S hF hP hl hr hk => ?_)
  have hx := S.1
  have hb := S.2.1
  replace hl : lv_has ls 2 [(0, .ref (P.2.1 0)), (1, .int x1)] := hl
  unfold F_X5_isBarred at h
  refine lv_aload_n hx hb dX5_isBarred_0 rfl (lv_at hl 0 rfl) ?_
  refine vt_getR (r := 1) S hF hP (k := 0) (ci := 5) 0 (hlt _ (by decide)) rfl (by decide) rfl (by decide) rfl rfl (inC_X5 _) (List.mem_cons_of_mem _ fl_X5_12) dX5_isBarred_1 ?_
  refine lv_iload_n hx hb dX5_isBarred_4 rfl (lv_at hl 1 rfl) ?_
  refine vu_i hP (vu_V S hF hP (h := 1) (hlt _ (by decide)) rfl (by decide) rfl (c_X0_hasLine l P hA hn w x1) ok_X0_hasLine ml_X5_150 ⟨Nat.le_of_ble_eq_true rfl, Nat.le_of_ble_eq_true rfl⟩ rfl hl.1 rfl (Nat.le_of_ble_eq_true rfl) dX5_isBarred_5 ⟨Nat.le_of_ble_eq_true rfl, Nat.le_of_ble_eq_true rfl⟩) (fun H locs ho1 hP => ?_)
  obtain ⟨q2, hq2, h⟩ := ob h
  cases q2 with
  | inl u => cases h
  | inr v3 =>
    rw [Sum.elim_inr] at h
    refine vu_v hP (vu_S S hF hP (n_X5_needIndex l P hA hn w (F_X0_hasLine w x1) hq2) ok_X5_needIndex ml_X5_146 ⟨Nat.le_of_ble_eq_true rfl, Nat.le_of_ble_eq_true rfl⟩ rfl hl.1 rfl (Nat.le_of_ble_eq_true rfl) dX5_isBarred_8 ⟨Nat.le_of_ble_eq_true rfl, Nat.le_of_ble_eq_true rfl⟩) (fun H locs hP => ?_)
    refine lv_aload_n hx hb dX5_isBarred_11 rfl (lv_at hl 0 rfl) ?_
    refine vt_getR (r := 1) S hF hP (k := 0) (ci := 5) 0 (hlt _ (by decide)) rfl (by decide) rfl (by decide) rfl rfl (inC_X5 _) (List.mem_cons_of_mem _ fl_X5_12) dX5_isBarred_12 ?_
    refine lv_iload_n hx hb dX5_isBarred_15 rfl (lv_at hl 1 rfl) ?_
    refine vu_i hP (vu_V S hF hP (h := 1) (hlt _ (by decide)) rfl (by decide) rfl (c_X0_hasBar l P hA hn v3 x1) ok_X0_hasBar ml_X5_106 ⟨Nat.le_of_ble_eq_true rfl, Nat.le_of_ble_eq_true rfl⟩ rfl hl.1 rfl (Nat.le_of_ble_eq_true rfl) dX5_isBarred_16 ⟨Nat.le_of_ble_eq_true rfl, Nat.le_of_ble_eq_true rfl⟩) (fun H locs ho4 hP => ?_)
    obtain rfl := Sum.inr.inj (Option.some.inj h)
    exact ve_i (v := (F_X0_hasBar v3 x1)) S hF hP hr hk ho4 dX5_isBarred_19
set_option maxRecDepth 100000 in
set_option maxHeartbeats 4000000 in
theorem n_X5_boardOf (l : Launch) (P : Pl) (hA : Adr P) (hn : 26 ≤ P.2.2.2.1) (w : Wo) (x1 : Int32) {r : (Int32 × Wo)} (h : F_X5_boardOf w x1 = some (Sum.inr r)) : CtI l P yX5_boardOf cX5_boardOf 2 (some .int) 6 [.ref (P.2.1 0), .int x1] w r.1 r.2 := by
  have hlt : ∀ h, h < 26 → h < P.2.2.2.1 := fun h q => Nat.lt_of_lt_of_le q hn
  refine vs_met hA (by decide +kernel) (Nat.le_of_ble_eq_true rfl) (fun p e s m args below meth c ls S hF hP hl hr hk => ?_)
  have hx := S.1
  have hb := S.2.1
  replace hl : lv_has ls 2 [(0, .ref (P.2.1 0)), (1, .int x1)] := hl
  unfold F_X5_boardOf at h
  refine lv_iload_n hx hb dX5_boardOf_0 rfl (lv_at hl 1 rfl) ?_
  by_cases c10 : x1 = 0
  · rw [if_pos c10] at h
    refine lv_tableIn (off := 43) (tgt := 44) hx hb dX5_boardOf_1 (by rw [c10]; decide) (by rw [c10]; decide) (by rw [c10]; rfl) (by decide) ?_
    refine lv_aload_n hx hb dX5_boardOf_44 rfl (lv_at hl 0 rfl) ?_
    refine vt_getR (r := 1) S hF hP (k := 0) (ci := 5) 0 (hlt _ (by decide)) rfl (by decide) rfl (by decide) rfl rfl (inC_X5 _) (List.mem_cons_of_mem _ fl_X5_12) dX5_boardOf_45 ?_
    refine vt_getI S hF hP (k := 0) (ci := 0) 1 (hlt _ (by decide)) rfl (by decide) rfl (by decide) rfl (inC_X0 _) (List.mem_cons_of_mem _ fl_X5_153) dX5_boardOf_48 ?_
    obtain rfl := Sum.inr.inj (Option.some.inj h)
    exact ve_i (v := (gI w 1 0)) S hF hP hr hk rfl dX5_boardOf_51
  rw [if_neg c10] at h
  by_cases c11 : x1 = 1
  · rw [if_pos c11] at h
    refine lv_tableIn (off := 51) (tgt := 52) hx hb dX5_boardOf_1 (by rw [c11]; decide) (by rw [c11]; decide) (by rw [c11]; rfl) (by decide) ?_
    refine lv_aload_n hx hb dX5_boardOf_52 rfl (lv_at hl 0 rfl) ?_
    refine vt_getR (r := 1) S hF hP (k := 0) (ci := 5) 0 (hlt _ (by decide)) rfl (by decide) rfl (by decide) rfl rfl (inC_X5 _) (List.mem_cons_of_mem _ fl_X5_12) dX5_boardOf_53 ?_
    refine vt_getI S hF hP (k := 1) (ci := 0) 1 (hlt _ (by decide)) rfl (by decide) rfl (by decide) rfl (inC_X0 _) (List.mem_cons_of_mem _ fl_X5_156) dX5_boardOf_56 ?_
    obtain rfl := Sum.inr.inj (Option.some.inj h)
    exact ve_i (v := (gI w 1 1)) S hF hP hr hk rfl dX5_boardOf_59
  rw [if_neg c11] at h
  by_cases c12 : x1 = 2
  · rw [if_pos c12] at h
    refine lv_tableIn (off := 59) (tgt := 60) hx hb dX5_boardOf_1 (by rw [c12]; decide) (by rw [c12]; decide) (by rw [c12]; rfl) (by decide) ?_
    refine lv_aload_n hx hb dX5_boardOf_60 rfl (lv_at hl 0 rfl) ?_
    refine vt_getR (r := 1) S hF hP (k := 0) (ci := 5) 0 (hlt _ (by decide)) rfl (by decide) rfl (by decide) rfl rfl (inC_X5 _) (List.mem_cons_of_mem _ fl_X5_12) dX5_boardOf_61 ?_
    refine vu_i hP (vu_V S hF hP (h := 1) (hlt _ (by decide)) rfl (by decide) rfl (c_X0_turns l P hA hn w) ok_X0_turns ml_X5_159 ⟨Nat.le_of_ble_eq_true rfl, Nat.le_of_ble_eq_true rfl⟩ rfl hl.1 rfl (Nat.le_of_ble_eq_true rfl) dX5_boardOf_64 ⟨Nat.le_of_ble_eq_true rfl, Nat.le_of_ble_eq_true rfl⟩) (fun H locs ho1 hP => ?_)
    obtain rfl := Sum.inr.inj (Option.some.inj h)
    exact ve_i (v := (F_X0_turns w)) S hF hP hr hk rfl dX5_boardOf_67
  rw [if_neg c12] at h
  by_cases c13 : x1 = 3
  · rw [if_pos c13] at h
    refine lv_tableIn (off := 67) (tgt := 68) hx hb dX5_boardOf_1 (by rw [c13]; decide) (by rw [c13]; decide) (by rw [c13]; rfl) (by decide) ?_
    refine lv_aload_n hx hb dX5_boardOf_68 rfl (lv_at hl 0 rfl) ?_
    refine vt_getR (r := 1) S hF hP (k := 0) (ci := 5) 0 (hlt _ (by decide)) rfl (by decide) rfl (by decide) rfl rfl (inC_X5 _) (List.mem_cons_of_mem _ fl_X5_12) dX5_boardOf_69 ?_
    refine vu_i hP (vu_V S hF hP (h := 1) (hlt _ (by decide)) rfl (by decide) rfl (c_X0_turns l P hA hn w) ok_X0_turns ml_X5_159 ⟨Nat.le_of_ble_eq_true rfl, Nat.le_of_ble_eq_true rfl⟩ rfl hl.1 rfl (Nat.le_of_ble_eq_true rfl) dX5_boardOf_72 ⟨Nat.le_of_ble_eq_true rfl, Nat.le_of_ble_eq_true rfl⟩) (fun H locs ho2 hP => ?_)
    refine lv_iconst (v := 2) hx hb dX5_boardOf_75 (by decide) ?_
    refine lv_aload_n hx hb dX5_boardOf_76 rfl (lv_at hl 0 rfl) ?_
    refine vt_getR (r := 1) S hF hP (k := 0) (ci := 5) 0 (hlt _ (by decide)) rfl (by decide) rfl (by decide) rfl rfl (inC_X5 _) (List.mem_cons_of_mem _ fl_X5_12) dX5_boardOf_77 ?_
    refine vu_i hP (vu_V S hF hP (h := 1) (hlt _ (by decide)) rfl (by decide) rfl (c_X0_barredLines l P hA hn w) ok_X0_barredLines ml_X5_162 ⟨Nat.le_of_ble_eq_true rfl, Nat.le_of_ble_eq_true rfl⟩ rfl hl.1 rfl (Nat.le_of_ble_eq_true rfl) dX5_boardOf_80 ⟨Nat.le_of_ble_eq_true rfl, Nat.le_of_ble_eq_true rfl⟩) (fun H locs ho3 hP => ?_)
    refine lv_imul hx hb dX5_boardOf_83 ?_
    refine lv_isub hx hb dX5_boardOf_84 ?_
    obtain rfl := Sum.inr.inj (Option.some.inj h)
    exact ve_i (v := ((F_X0_turns w) - ((2 : Int32) * (F_X0_barredLines w)))) S hF hP hr hk rfl dX5_boardOf_85
  rw [if_neg c13] at h
  by_cases c14 : x1 = 4
  · rw [if_pos c14] at h
    refine lv_tableIn (off := 85) (tgt := 86) hx hb dX5_boardOf_1 (by rw [c14]; decide) (by rw [c14]; decide) (by rw [c14]; rfl) (by decide) ?_
    refine lv_aload_n hx hb dX5_boardOf_86 rfl (lv_at hl 0 rfl) ?_
    refine vt_getR (r := 1) S hF hP (k := 0) (ci := 5) 0 (hlt _ (by decide)) rfl (by decide) rfl (by decide) rfl rfl (inC_X5 _) (List.mem_cons_of_mem _ fl_X5_12) dX5_boardOf_87 ?_
    obtain ⟨q4, hq4, h⟩ := ob h
    refine vu_i hP (vu_V S hF hP (h := 1) (hlt _ (by decide)) rfl (by decide) rfl (c_X0_unlikeLetters l P hA hn w hq4) ok_X0_unlikeLetters ml_X5_165 ⟨Nat.le_of_ble_eq_true rfl, Nat.le_of_ble_eq_true rfl⟩ rfl hl.1 rfl (Nat.le_of_ble_eq_true rfl) dX5_boardOf_90 ⟨Nat.le_of_ble_eq_true rfl, Nat.le_of_ble_eq_true rfl⟩) (fun H locs ho5 hP => ?_)
    obtain rfl := Sum.inr.inj (Option.some.inj h)
    exact ve_i (v := q4) S hF hP hr hk rfl dX5_boardOf_93
  rw [if_neg c14] at h
  by_cases c15 : x1 = 5
  · rw [if_pos c15] at h
    refine lv_tableIn (off := 93) (tgt := 94) hx hb dX5_boardOf_1 (by rw [c15]; decide) (by rw [c15]; decide) (by rw [c15]; rfl) (by decide) ?_
    refine lv_aload_n hx hb dX5_boardOf_94 rfl (lv_at hl 0 rfl) ?_
    refine vt_getR (r := 1) S hF hP (k := 0) (ci := 5) 0 (hlt _ (by decide)) rfl (by decide) rfl (by decide) rfl rfl (inC_X5 _) (List.mem_cons_of_mem _ fl_X5_12) dX5_boardOf_95 ?_
    obtain ⟨q6, hq6, h⟩ := ob h
    refine vu_i hP (vu_V S hF hP (h := 1) (hlt _ (by decide)) rfl (by decide) rfl (c_X0_vowels l P hA hn w hq6) ok_X0_vowels ml_X5_168 ⟨Nat.le_of_ble_eq_true rfl, Nat.le_of_ble_eq_true rfl⟩ rfl hl.1 rfl (Nat.le_of_ble_eq_true rfl) dX5_boardOf_98 ⟨Nat.le_of_ble_eq_true rfl, Nat.le_of_ble_eq_true rfl⟩) (fun H locs ho7 hP => ?_)
    obtain rfl := Sum.inr.inj (Option.some.inj h)
    exact ve_i (v := q6) S hF hP hr hk rfl dX5_boardOf_101
  rw [if_neg c15] at h
  by_cases c16 : x1 = 6
  · rw [if_pos c16] at h
    refine lv_tableIn (off := 101) (tgt := 102) hx hb dX5_boardOf_1 (by rw [c16]; decide) (by rw [c16]; decide) (by rw [c16]; rfl) (by decide) ?_
    refine lv_aload_n hx hb dX5_boardOf_102 rfl (lv_at hl 0 rfl) ?_
    refine vt_getR (r := 1) S hF hP (k := 0) (ci := 5) 0 (hlt _ (by decide)) rfl (by decide) rfl (by decide) rfl rfl (inC_X5 _) (List.mem_cons_of_mem _ fl_X5_12) dX5_boardOf_103 ?_
    refine lv_aload_n hx hb dX5_boardOf_106 rfl (lv_at hl 0 rfl) ?_
    refine vt_getR (r := 1) S hF hP (k := 0) (ci := 5) 0 (hlt _ (by decide)) rfl (by decide) rfl (by decide) rfl rfl (inC_X5 _) (List.mem_cons_of_mem _ fl_X5_12) dX5_boardOf_107 ?_
    refine vt_getL S hF hP (k := 3) (ci := 0) 1 (hlt _ (by decide)) rfl (by decide) rfl (by decide) rfl (inC_X0 _) (List.mem_cons_of_mem _ fl_X5_99) dX5_boardOf_110 ?_
    refine lv_bipush (v := 12) hx hb dX5_boardOf_113 (by decide) ?_
    obtain ⟨q8, hq8, h⟩ := ob h
    refine vu_i hP (vu_V S hF hP (h := 1) (hlt _ (by decide)) rfl (by decide) rfl (c_X0_count l P hA hn w (gL w 1 3) 12 hq8) ok_X0_count ml_X5_171 ⟨Nat.le_of_ble_eq_true rfl, Nat.le_of_ble_eq_true rfl⟩ rfl hl.1 rfl (Nat.le_of_ble_eq_true rfl) dX5_boardOf_115 ⟨Nat.le_of_ble_eq_true rfl, Nat.le_of_ble_eq_true rfl⟩) (fun H locs ho9 hP => ?_)
    obtain rfl := Sum.inr.inj (Option.some.inj h)
    exact ve_i (v := q8) S hF hP hr hk rfl dX5_boardOf_118
  rw [if_neg c16] at h
  refine lv_tableOut (tgt := 119) hx hb dX5_boardOf_1 (sw_out (fun i i1 i2 => ?_)) (by decide) ?_
  · have i3 : i = 0 ∨ i = 1 ∨ i = 2 ∨ i = 3 ∨ i = 4 ∨ i = 5 ∨ i = 6 := by omega
    rcases i3 with rfl | rfl | rfl | rfl | rfl | rfl | rfl
    · exact c10
    · exact c11
    · exact c12
    · exact c13
    · exact c14
    · exact c15
    · exact c16
  cases h
set_option maxRecDepth 100000 in
set_option maxHeartbeats 4000000 in
theorem n_X5_away (l : Launch) (P : Pl) (hA : Adr P) (hn : 26 ≤ P.2.2.2.1) (w : Wo) (x1 : Int32) {r : (Int32 × Wo)} (h : F_X5_away w x1 = some (Sum.inr r)) : CtI l P yX5_away cX5_away 3 (some .int) 15 [.ref (P.2.1 0), .int x1] w r.1 r.2 := by
  have hlt : ∀ h, h < 26 → h < P.2.2.2.1 := fun h q => Nat.lt_of_lt_of_le q hn
  refine vs_met hA (by decide +kernel) (Nat.le_of_ble_eq_true rfl) (fun p e s m args below meth c ls S hF hP hl hr hk => ?_)
  have hx := S.1
  have hb := S.2.1
  replace hl : lv_has ls 3 [(0, .ref (P.2.1 0)), (1, .int x1)] := hl
  have hB15 : ∀ (w : Wo) (t0 : Int32), B_X5_away_15 w t0 = some (Sum.inr r) → ∀ (H : Heap) (locs : List Loc) (ls : Array Slot), St P s w H locs → lv_has ls 3 [] → W p l e (rmU 15 0 0) s m args below meth c H locs 0 0 (QI P (some .int) r.1 r.2 below args s) (F0 m 15 ls [.int t0]) := by
    intro w t0 h H locs ls hP hl
    unfold B_X5_away_15 at h
    refine lv_istore_n (lv' := [(2, .int t0)]) hx hb dX5_away_15 rfl hl (by decide) rfl (fun ls hl => ?_)
    refine lv_iload_n hx hb dX5_away_16 rfl (lv_at hl 0 rfl) ?_
    refine lv_iconst (v := 3) hx hb dX5_away_17 (by decide) ?_
    refine lv_icmp_le (tgt := 31) hx hb dX5_away_18 (by decide) (fun c5 => ?_) (fun c5 => ?_)
    · rw [if_pos c5] at h
      refine lv_iload_n hx hb dX5_away_31 rfl (lv_at hl 0 rfl) ?_
      obtain rfl := Sum.inr.inj (Option.some.inj h)
      exact ve_i (v := t0) S hF hP hr hk rfl dX5_away_32
    · rw [if_neg c5] at h
      cases h
  unfold F_X5_away at h
  refine lv_iload_n hx hb dX5_away_0 rfl (lv_at hl 1 rfl) ?_
  refine lv_if_eq (tgt := 11) hx hb dX5_away_1 (by decide) (fun c6 => ?_) (fun c6 => ?_)
  · rw [if_pos c6] at h
    refine lv_aload_n hx hb dX5_away_11 rfl (lv_at hl 0 rfl) ?_
    obtain ⟨q1, hq1, h⟩ := ob h
    refine vu_i hP (vu_V S hF hP (h := 0) (hlt _ (by decide)) rfl (by decide) rfl (c_X5_fewestByHalves l P hA hn w hq1) ok_X5_fewestByHalves ml_X5_182 ⟨Nat.le_of_ble_eq_true rfl, Nat.le_of_ble_eq_true rfl⟩ rfl hl.1 rfl (Nat.le_of_ble_eq_true rfl) dX5_away_12 ⟨Nat.le_of_ble_eq_true rfl, Nat.le_of_ble_eq_true rfl⟩) (fun H locs ho2 hP => ?_)
    exact hB15 _ _ h _ _ _ hP (lv_sub hl [] rfl)
  · rw [if_neg c6] at h
    refine lv_aload_n hx hb dX5_away_4 rfl (lv_at hl 0 rfl) ?_
    obtain ⟨q3, hq3, h⟩ := ob h
    refine vu_i hP (vu_V S hF hP (h := 0) (hlt _ (by decide)) rfl (by decide) rfl (c_X5_fewestByAll l P hA hn w hq3) ok_X5_fewestByAll ml_X5_179 ⟨Nat.le_of_ble_eq_true rfl, Nat.le_of_ble_eq_true rfl⟩ rfl hl.1 rfl (Nat.le_of_ble_eq_true rfl) dX5_away_5 ⟨Nat.le_of_ble_eq_true rfl, Nat.le_of_ble_eq_true rfl⟩) (fun H locs ho4 hP => ?_)
    refine lv_goto (tgt := 15) hx hb dX5_away_8 (by decide) ?_
    exact hB15 _ _ h _ _ _ hP (lv_sub hl [] rfl)
set_option maxRecDepth 100000 in
set_option maxHeartbeats 4000000 in
theorem n_X5_firstTurn (l : Launch) (P : Pl) (hA : Adr P) (hn : 26 ≤ P.2.2.2.1) (w : Wo) {r : (Int32 × Wo)} (h : F_X5_firstTurn w = some (Sum.inr r)) : CtI l P yX5_firstTurn cX5_firstTurn 1 (some .int) 6 [.ref (P.2.1 0)] w r.1 r.2 := by
  have hlt : ∀ h, h < 26 → h < P.2.2.2.1 := fun h q => Nat.lt_of_lt_of_le q hn
  refine vs_met hA (by decide +kernel) (Nat.le_of_ble_eq_true rfl) (fun p e s m args below meth c ls S hF hP hl hr hk => ?_)
  have hx := S.1
  have hb := S.2.1
  replace hl : lv_has ls 1 [(0, .ref (P.2.1 0))] := hl
  unfold F_X5_firstTurn at h
  refine lv_aload_n hx hb dX5_firstTurn_0 rfl (lv_at hl 0 rfl) ?_
  refine vt_getR (r := 14) S hF hP (k := 4) (ci := 5) 0 (hlt _ (by decide)) rfl (by decide) rfl (by decide) rfl rfl (inC_X5 _) (List.mem_cons_of_mem _ fl_X5_32) dX5_firstTurn_1 ?_
  refine lv_aload_n hx hb dX5_firstTurn_4 rfl (lv_at hl 0 rfl) ?_
  refine vt_getR (r := 1) S hF hP (k := 0) (ci := 5) 0 (hlt _ (by decide)) rfl (by decide) rfl (by decide) rfl rfl (inC_X5 _) (List.mem_cons_of_mem _ fl_X5_12) dX5_firstTurn_5 ?_
  obtain ⟨q1, hq1, h⟩ := ob h
  refine vu_v hP (vu_V S hF hP (h := 14) (hlt _ (by decide)) rfl (by decide) rfl (c_X1_search l P hA hn w hq1) ok_X1_search ml_X5_120 ⟨Nat.le_of_ble_eq_true rfl, Nat.le_of_ble_eq_true rfl⟩ rfl hl.1 rfl (Nat.le_of_ble_eq_true rfl) dX5_firstTurn_8 ⟨Nat.le_of_ble_eq_true rfl, Nat.le_of_ble_eq_true rfl⟩) (fun H locs hP => ?_)
  refine lv_aload_n hx hb dX5_firstTurn_11 rfl (lv_at hl 0 rfl) ?_
  refine vt_getR (r := 14) S hF hP (k := 4) (ci := 5) 0 (hlt _ (by decide)) rfl (by decide) rfl (by decide) rfl rfl (inC_X5 _) (List.mem_cons_of_mem _ fl_X5_32) dX5_firstTurn_12 ?_
  refine vt_getI S hF hP (k := 7) (ci := 1) 14 (hlt _ (by decide)) rfl (by decide) rfl (by decide) rfl (inC_X1 _) (List.mem_cons_of_mem _ fl_X5_124) dX5_firstTurn_15 ?_
  refine lv_if_ge (tgt := 31) hx hb dX5_firstTurn_18 (by decide) (fun c2 => ?_) (fun c2 => ?_)
  · rw [if_pos c2] at h
    refine lv_aload_n hx hb dX5_firstTurn_31 rfl (lv_at hl 0 rfl) ?_
    refine vt_getR (r := 14) S hF hP (k := 4) (ci := 5) 0 (hlt _ (by decide)) rfl (by decide) rfl (by decide) rfl rfl (inC_X5 _) (List.mem_cons_of_mem _ fl_X5_32) dX5_firstTurn_32 ?_
    refine vt_getI S hF hP (k := 7) (ci := 1) 14 (hlt _ (by decide)) rfl (by decide) rfl (by decide) rfl (inC_X1 _) (List.mem_cons_of_mem _ fl_X5_124) dX5_firstTurn_35 ?_
    obtain rfl := Sum.inr.inj (Option.some.inj h)
    exact ve_i (v := (gI q1 14 7)) S hF hP hr hk rfl dX5_firstTurn_38
  · rw [if_neg c2] at h
    cases h
set_option maxRecDepth 100000 in
set_option maxHeartbeats 4000000 in
theorem n_X5_isOdd (l : Launch) (P : Pl) (hA : Adr P) (hn : 26 ≤ P.2.2.2.1) (w : Wo) (x1 : Int32) {r : (Int32 × Wo)} (h : F_X5_isOdd w x1 = some (Sum.inr r)) : CtI l P yX5_isOdd cX5_isOdd 2 (some .boolean) 6 [.ref (P.2.1 0), .int x1] w r.1 r.2 := by
  have hlt : ∀ h, h < 26 → h < P.2.2.2.1 := fun h q => Nat.lt_of_lt_of_le q hn
  refine vs_met hA (by decide +kernel) (Nat.le_of_ble_eq_true rfl) (fun p e s m args below meth c ls S hF hP hl hr hk => ?_)
  have hx := S.1
  have hb := S.2.1
  replace hl : lv_has ls 2 [(0, .ref (P.2.1 0)), (1, .int x1)] := hl
  unfold F_X5_isOdd at h
  refine lv_aload_n hx hb dX5_isOdd_0 rfl (lv_at hl 0 rfl) ?_
  refine vt_getR (r := 1) S hF hP (k := 0) (ci := 5) 0 (hlt _ (by decide)) rfl (by decide) rfl (by decide) rfl rfl (inC_X5 _) (List.mem_cons_of_mem _ fl_X5_12) dX5_isOdd_1 ?_
  obtain ⟨q1, hq1, h⟩ := ob h
  refine vu_i hP (vu_V S hF hP (h := 1) (hlt _ (by decide)) rfl (by decide) rfl (c_X0_hasSameLetters l P hA hn w hq1) ok_X0_hasSameLetters ml_X5_191 ⟨Nat.le_of_ble_eq_true rfl, Nat.le_of_ble_eq_true rfl⟩ rfl hl.1 rfl (Nat.le_of_ble_eq_true rfl) dX5_isOdd_4 ⟨Nat.le_of_ble_eq_true rfl, Nat.le_of_ble_eq_true rfl⟩) (fun H locs ho2 hP => ?_)
  refine lv_if_ne (tgt := 20) hx hb dX5_isOdd_7 (by decide) (fun c7 => ?_) (fun c7 => ?_)
  · rw [if_neg c7] at h
    refine lv_iload_n hx hb dX5_isOdd_20 rfl (lv_at hl 1 rfl) ?_
    refine lv_if_eq (tgt := 41) hx hb dX5_isOdd_21 (by decide) (fun c8 => ?_) (fun c8 => ?_)
    · rw [if_pos c8] at h
      refine lv_aload_n hx hb dX5_isOdd_41 rfl (lv_at hl 0 rfl) ?_
      refine vt_getR (r := 1) S hF hP (k := 0) (ci := 5) 0 (hlt _ (by decide)) rfl (by decide) rfl (by decide) rfl rfl (inC_X5 _) (List.mem_cons_of_mem _ fl_X5_12) dX5_isOdd_42 ?_
      refine lv_aload_n hx hb dX5_isOdd_45 rfl (lv_at hl 0 rfl) ?_
      refine vt_getR (r := 1) S hF hP (k := 0) (ci := 5) 0 (hlt _ (by decide)) rfl (by decide) rfl (by decide) rfl rfl (inC_X5 _) (List.mem_cons_of_mem _ fl_X5_12) dX5_isOdd_46 ?_
      refine vt_getL S hF hP (k := 3) (ci := 0) 1 (hlt _ (by decide)) rfl (by decide) rfl (by decide) rfl (inC_X0 _) (List.mem_cons_of_mem _ fl_X5_99) dX5_isOdd_49 ?_
      obtain ⟨q3, hq3, h⟩ := ob h
      refine vu_i hP (vu_V S hF hP (h := 1) (hlt _ (by decide)) rfl (by decide) rfl (c_X0_isOddByCycles l P hA hn w (gL w 1 3) hq3) ok_X0_isOddByCycles ml_X5_200 ⟨Nat.le_of_ble_eq_true rfl, Nat.le_of_ble_eq_true rfl⟩ rfl hl.1 rfl (Nat.le_of_ble_eq_true rfl) dX5_isOdd_52 ⟨Nat.le_of_ble_eq_true rfl, Nat.le_of_ble_eq_true rfl⟩) (fun H locs ho4 hP => ?_)
      obtain rfl := Sum.inr.inj (Option.some.inj h)
      exact ve_i (v := q3) S hF hP hr hk ho4 dX5_isOdd_55
    · rw [if_neg c8] at h
      refine lv_aload_n hx hb dX5_isOdd_24 rfl (lv_at hl 0 rfl) ?_
      refine vt_getR (r := 1) S hF hP (k := 0) (ci := 5) 0 (hlt _ (by decide)) rfl (by decide) rfl (by decide) rfl rfl (inC_X5 _) (List.mem_cons_of_mem _ fl_X5_12) dX5_isOdd_25 ?_
      refine lv_aload_n hx hb dX5_isOdd_28 rfl (lv_at hl 0 rfl) ?_
      refine vt_getR (r := 1) S hF hP (k := 0) (ci := 5) 0 (hlt _ (by decide)) rfl (by decide) rfl (by decide) rfl rfl (inC_X5 _) (List.mem_cons_of_mem _ fl_X5_12) dX5_isOdd_29 ?_
      refine vt_getL S hF hP (k := 3) (ci := 0) 1 (hlt _ (by decide)) rfl (by decide) rfl (by decide) rfl (inC_X0 _) (List.mem_cons_of_mem _ fl_X5_99) dX5_isOdd_32 ?_
      obtain ⟨q5, hq5, h⟩ := ob h
      refine vu_i hP (vu_V S hF hP (h := 1) (hlt _ (by decide)) rfl (by decide) rfl (c_X0_isOddByPairs l P hA hn w (gL w 1 3) hq5) ok_X0_isOddByPairs ml_X5_196 ⟨Nat.le_of_ble_eq_true rfl, Nat.le_of_ble_eq_true rfl⟩ rfl hl.1 rfl (Nat.le_of_ble_eq_true rfl) dX5_isOdd_35 ⟨Nat.le_of_ble_eq_true rfl, Nat.le_of_ble_eq_true rfl⟩) (fun H locs ho6 hP => ?_)
      refine lv_goto (tgt := 55) hx hb dX5_isOdd_38 (by decide) ?_
      obtain rfl := Sum.inr.inj (Option.some.inj h)
      exact ve_i (v := q5) S hF hP hr hk ho6 dX5_isOdd_55
  · rw [if_pos c7] at h
    cases h
set_option maxRecDepth 100000 in
set_option maxHeartbeats 4000000 in
theorem n_X5_would (l : Launch) (P : Pl) (hA : Adr P) (hn : 26 ≤ P.2.2.2.1) (w : Wo) (x1 : Int32) {r : (Int32 × Wo)} (h : F_X5_would w x1 = some (Sum.inr r)) : CtI l P yX5_would cX5_would 2 (some .int) 7 [.ref (P.2.1 0), .int x1] w r.1 r.2 := by
  have hlt : ∀ h, h < 26 → h < P.2.2.2.1 := fun h q => Nat.lt_of_lt_of_le q hn
  refine vs_met hA (by decide +kernel) (Nat.le_of_ble_eq_true rfl) (fun p e s m args below meth c ls S hF hP hl hr hk => ?_)
  have hx := S.1
  have hb := S.2.1
  replace hl : lv_has ls 2 [(0, .ref (P.2.1 0)), (1, .int x1)] := hl
  unfold F_X5_would at h
  refine lv_aload_n hx hb dX5_would_0 rfl (lv_at hl 0 rfl) ?_
  refine vt_getR (r := 1) S hF hP (k := 0) (ci := 5) 0 (hlt _ (by decide)) rfl (by decide) rfl (by decide) rfl rfl (inC_X5 _) (List.mem_cons_of_mem _ fl_X5_12) dX5_would_1 ?_
  refine lv_iload_n hx hb dX5_would_4 rfl (lv_at hl 1 rfl) ?_
  refine vu_i hP (vu_V S hF hP (h := 1) (hlt _ (by decide)) rfl (by decide) rfl (c_X0_hasTurn l P hA hn w x1) ok_X0_hasTurn ml_X5_203 ⟨Nat.le_of_ble_eq_true rfl, Nat.le_of_ble_eq_true rfl⟩ rfl hl.1 rfl (Nat.le_of_ble_eq_true rfl) dX5_would_5 ⟨Nat.le_of_ble_eq_true rfl, Nat.le_of_ble_eq_true rfl⟩) (fun H locs ho1 hP => ?_)
  obtain ⟨q2, hq2, h⟩ := ob h
  cases q2 with
  | inl u => cases h
  | inr v3 =>
    rw [Sum.elim_inr] at h
    refine vu_v hP (vu_S S hF hP (n_X5_needIndex l P hA hn w (F_X0_hasTurn w x1) hq2) ok_X5_needIndex ml_X5_146 ⟨Nat.le_of_ble_eq_true rfl, Nat.le_of_ble_eq_true rfl⟩ rfl hl.1 rfl (Nat.le_of_ble_eq_true rfl) dX5_would_8 ⟨Nat.le_of_ble_eq_true rfl, Nat.le_of_ble_eq_true rfl⟩) (fun H locs hP => ?_)
    refine lv_aload_n hx hb dX5_would_11 rfl (lv_at hl 0 rfl) ?_
    refine vt_getR (r := 1) S hF hP (k := 0) (ci := 5) 0 (hlt _ (by decide)) rfl (by decide) rfl (by decide) rfl rfl (inC_X5 _) (List.mem_cons_of_mem _ fl_X5_12) dX5_would_12 ?_
    refine lv_aload_n hx hb dX5_would_15 rfl (lv_at hl 0 rfl) ?_
    refine vt_getR (r := 1) S hF hP (k := 0) (ci := 5) 0 (hlt _ (by decide)) rfl (by decide) rfl (by decide) rfl rfl (inC_X5 _) (List.mem_cons_of_mem _ fl_X5_12) dX5_would_16 ?_
    refine lv_aload_n hx hb dX5_would_19 rfl (lv_at hl 0 rfl) ?_
    refine vt_getR (r := 1) S hF hP (k := 0) (ci := 5) 0 (hlt _ (by decide)) rfl (by decide) rfl (by decide) rfl rfl (inC_X5 _) (List.mem_cons_of_mem _ fl_X5_12) dX5_would_20 ?_
    refine vt_getL S hF hP (k := 2) (ci := 0) 1 (hlt _ (by decide)) rfl (by decide) rfl (by decide) rfl (inC_X0 _) (List.mem_cons_of_mem _ fl_X5_83) dX5_would_23 ?_
    refine lv_iload_n hx hb dX5_would_26 rfl (lv_at hl 1 rfl) ?_
    obtain ⟨q4, hq4, h⟩ := ob h
    refine vu_l hP (vu_V S hF hP (h := 1) (hlt _ (by decide)) rfl (by decide) rfl (c_X0_turned l P hA hn v3 (gL v3 1 2) x1 hq4) ok_X0_turned ml_X5_206 ⟨Nat.le_of_ble_eq_true rfl, Nat.le_of_ble_eq_true rfl⟩ rfl hl.1 rfl (Nat.le_of_ble_eq_true rfl) dX5_would_27 ⟨Nat.le_of_ble_eq_true rfl, Nat.le_of_ble_eq_true rfl⟩) (fun H locs hP => ?_)
    obtain ⟨q5, hq5, h⟩ := ob h
    refine vu_i hP (vu_V S hF hP (h := 1) (hlt _ (by decide)) rfl (by decide) rfl (c_X0_atHome l P hA hn v3 q4 hq5) ok_X0_atHome ml_X5_102 ⟨Nat.le_of_ble_eq_true rfl, Nat.le_of_ble_eq_true rfl⟩ rfl hl.1 rfl (Nat.le_of_ble_eq_true rfl) dX5_would_30 ⟨Nat.le_of_ble_eq_true rfl, Nat.le_of_ble_eq_true rfl⟩) (fun H locs ho6 hP => ?_)
    obtain rfl := Sum.inr.inj (Option.some.inj h)
    exact ve_i (v := q5) S hF hP hr hk rfl dX5_would_33
set_option maxRecDepth 100000 in
set_option maxHeartbeats 4000000 in
theorem n_X5_best (l : Launch) (P : Pl) (hA : Adr P) (hn : 26 ≤ P.2.2.2.1) (w : Wo) {r : (Int32 × Wo)} (h : F_X5_best w = some (Sum.inr r)) : CtI l P yX5_best cX5_best 2 (some .int) 6 [.ref (P.2.1 0)] w r.1 r.2 := by
  have hlt : ∀ h, h < 26 → h < P.2.2.2.1 := fun h q => Nat.lt_of_lt_of_le q hn
  refine vs_met hA (by decide +kernel) (Nat.le_of_ble_eq_true rfl) (fun p e s m args below meth c ls S hF hP hl hr hk => ?_)
  have hx := S.1
  have hb := S.2.1
  replace hl : lv_has ls 2 [(0, .ref (P.2.1 0))] := hl
  unfold F_X5_best at h
  refine lv_aload_n hx hb dX5_best_0 rfl (lv_at hl 0 rfl) ?_
  refine vt_getR (r := 1) S hF hP (k := 0) (ci := 5) 0 (hlt _ (by decide)) rfl (by decide) rfl (by decide) rfl rfl (inC_X5 _) (List.mem_cons_of_mem _ fl_X5_12) dX5_best_1 ?_
  obtain ⟨q1, hq1, h⟩ := ob h
  refine vu_i hP (vu_V S hF hP (h := 1) (hlt _ (by decide)) rfl (by decide) rfl (c_X0_bestTurn l P hA hn w hq1) ok_X0_bestTurn ml_X5_210 ⟨Nat.le_of_ble_eq_true rfl, Nat.le_of_ble_eq_true rfl⟩ rfl hl.1 rfl (Nat.le_of_ble_eq_true rfl) dX5_best_4 ⟨Nat.le_of_ble_eq_true rfl, Nat.le_of_ble_eq_true rfl⟩) (fun H locs ho2 hP => ?_)
  refine lv_istore_n (lv' := [(1, .int q1), (0, .ref (P.2.1 0))]) hx hb dX5_best_7 rfl hl (by decide) rfl (fun ls hl => ?_)
  refine lv_iload_n hx hb dX5_best_8 rfl (lv_at hl 0 rfl) ?_
  refine lv_if_ge (tgt := 22) hx hb dX5_best_9 (by decide) (fun c3 => ?_) (fun c3 => ?_)
  · rw [if_pos c3] at h
    refine lv_iload_n hx hb dX5_best_22 rfl (lv_at hl 0 rfl) ?_
    obtain rfl := Sum.inr.inj (Option.some.inj h)
    exact ve_i (v := q1) S hF hP hr hk rfl dX5_best_23
  · rw [if_neg c3] at h
    cases h
set_option maxRecDepth 100000 in
set_option maxHeartbeats 4000000 in
theorem n_X5_where (l : Launch) (P : Pl) (hA : Adr P) (hn : 26 ≤ P.2.2.2.1) (w : Wo) (x1 : Int32) (x2 : Int32) (x3 : Int32) {r : (Int32 × Wo)} (h : F_X5_where w x1 x2 x3 = some (Sum.inr r)) : CtI l P yX5_where cX5_where 4 (some .int) 7 [.ref (P.2.1 0), .int x1, .int x2, .int x3] w r.1 r.2 := by
  have hlt : ∀ h, h < 26 → h < P.2.2.2.1 := fun h q => Nat.lt_of_lt_of_le q hn
  refine vs_met hA (by decide +kernel) (Nat.le_of_ble_eq_true rfl) (fun p e s m args below meth c ls S hF hP hl hr hk => ?_)
  have hx := S.1
  have hb := S.2.1
  replace hl : lv_has ls 4 [(0, .ref (P.2.1 0)), (1, .int x1), (2, .int x2), (3, .int x3)] := hl
  have hB40 : ∀ (w : Wo), B_X5_where_40 w = some (Sum.inr r) → ∀ (H : Heap) (locs : List Loc) (ls : Array Slot), St P s w H locs → lv_has ls 4 [] → W p l e (rmU 7 0 0) s m args below meth c H locs 0 0 (QI P (some .int) r.1 r.2 below args s) (F0 m 40 ls []) := by
    intro w h H locs ls hP hl
    unfold B_X5_where_40 at h
    cases h
  have hB27 : ∀ (w : Wo) (x1 : Int32) (x2 : Int32) (x3 : Int32) (t0 : Int32), B_X5_where_27 w x1 x2 x3 t0 = some (Sum.inr r) → ∀ (H : Heap) (locs : List Loc) (ls : Array Slot), St P s w H locs → lv_has ls 4 [(0, .ref (P.2.1 0)), (1, .int x1), (2, .int x2), (3, .int x3)] → W p l e (rmU 7 0 0) s m args below meth c H locs 0 0 (QI P (some .int) r.1 r.2 below args s) (F0 m 27 ls [.int t0]) := by
    intro w x1 x2 x3 t0 h H locs ls hP hl
    unfold B_X5_where_27 at h
    obtain ⟨q2, hq2, h⟩ := ob h
    cases q2 with
    | inl u => cases h
    | inr v3 =>
      rw [Sum.elim_inr] at h
      refine vu_v hP (vu_S S hF hP (n_X5_needIndex l P hA hn w t0 hq2) ok_X5_needIndex ml_X5_146 ⟨Nat.le_of_ble_eq_true rfl, Nat.le_of_ble_eq_true rfl⟩ rfl hl.1 rfl (Nat.le_of_ble_eq_true rfl) dX5_where_27 ⟨Nat.le_of_ble_eq_true rfl, Nat.le_of_ble_eq_true rfl⟩) (fun H locs hP => ?_)
      refine lv_iload_n hx hb dX5_where_30 rfl (lv_at hl 3 rfl) ?_
      refine lv_if_lt (tgt := 40) hx hb dX5_where_31 (by decide) (fun c7 => ?_) (fun c7 => ?_)
      · rw [if_pos c7] at h
        exact hB40 _ h _ _ _ hP (lv_sub hl [] rfl)
      · rw [if_neg c7] at h
        refine lv_iload_n hx hb dX5_where_34 rfl (lv_at hl 3 rfl) ?_
        refine lv_bipush (v := 99) hx hb dX5_where_35 (by decide) ?_
        refine lv_icmp_le (tgt := 50) hx hb dX5_where_37 (by decide) (fun c8 => ?_) (fun c8 => ?_)
        · rw [if_pos c8] at h
          refine lv_aload_n hx hb dX5_where_50 rfl (lv_at hl 0 rfl) ?_
          refine vt_getR (r := 1) S hF hP (k := 0) (ci := 5) 0 (hlt _ (by decide)) rfl (by decide) rfl (by decide) rfl rfl (inC_X5 _) (List.mem_cons_of_mem _ fl_X5_12) dX5_where_51 ?_
          refine lv_iload_n hx hb dX5_where_54 rfl (lv_at hl 1 rfl) ?_
          refine lv_iload_n hx hb dX5_where_55 rfl (lv_at hl 2 rfl) ?_
          refine lv_iload_n hx hb dX5_where_56 rfl (lv_at hl 3 rfl) ?_
          obtain ⟨q4, hq4, h⟩ := ob h
          refine vu_i hP (vu_V S hF hP (h := 1) (hlt _ (by decide)) rfl (by decide) rfl (c_X0_placeBehind l P hA hn v3 x1 x2 x3 hq4) ok_X0_placeBehind ml_X5_217 ⟨Nat.le_of_ble_eq_true rfl, Nat.le_of_ble_eq_true rfl⟩ rfl hl.1 rfl (Nat.le_of_ble_eq_true rfl) dX5_where_57 ⟨Nat.le_of_ble_eq_true rfl, Nat.le_of_ble_eq_true rfl⟩) (fun H locs ho5 hP => ?_)
          obtain rfl := Sum.inr.inj (Option.some.inj h)
          exact ve_i (v := q4) S hF hP hr hk rfl dX5_where_60
        · rw [if_neg c8] at h
          exact hB40 _ h _ _ _ hP (lv_sub hl [] rfl)
  have hB26 : ∀ (w : Wo) (x1 : Int32) (x2 : Int32) (x3 : Int32), B_X5_where_26 w x1 x2 x3 = some (Sum.inr r) → ∀ (H : Heap) (locs : List Loc) (ls : Array Slot), St P s w H locs → lv_has ls 4 [(0, .ref (P.2.1 0)), (1, .int x1), (2, .int x2), (3, .int x3)] → W p l e (rmU 7 0 0) s m args below meth c H locs 0 0 (QI P (some .int) r.1 r.2 below args s) (F0 m 26 ls []) := by
    intro w x1 x2 x3 h H locs ls hP hl
    unfold B_X5_where_26 at h
    refine lv_iconst (v := 0) hx hb dX5_where_26 (by decide) ?_
    exact hB27 _ _ _ _ _ h _ _ _ hP (lv_sub hl [0, 1, 2, 3] rfl)
  unfold F_X5_where at h
  refine lv_aload_n hx hb dX5_where_0 rfl (lv_at hl 0 rfl) ?_
  refine vt_getR (r := 1) S hF hP (k := 0) (ci := 5) 0 (hlt _ (by decide)) rfl (by decide) rfl (by decide) rfl rfl (inC_X5 _) (List.mem_cons_of_mem _ fl_X5_12) dX5_where_1 ?_
  refine lv_iload_n hx hb dX5_where_4 rfl (lv_at hl 1 rfl) ?_
  refine vu_i hP (vu_V S hF hP (h := 1) (hlt _ (by decide)) rfl (by decide) rfl (c_X0_hasPlace l P hA hn w x1) ok_X0_hasPlace ml_X5_143 ⟨Nat.le_of_ble_eq_true rfl, Nat.le_of_ble_eq_true rfl⟩ rfl hl.1 rfl (Nat.le_of_ble_eq_true rfl) dX5_where_5 ⟨Nat.le_of_ble_eq_true rfl, Nat.le_of_ble_eq_true rfl⟩) (fun H locs ho1 hP => ?_)
  refine lv_if_eq (tgt := 26) hx hb dX5_where_8 (by decide) (fun c9 => ?_) (fun c9 => ?_)
  · rw [if_pos c9] at h
    exact hB26 _ _ _ _ h _ _ _ hP (lv_sub hl [0, 1, 2, 3] rfl)
  · rw [if_neg c9] at h
    refine lv_aload_n hx hb dX5_where_11 rfl (lv_at hl 0 rfl) ?_
    refine vt_getR (r := 1) S hF hP (k := 0) (ci := 5) 0 (hlt _ (by decide)) rfl (by decide) rfl (by decide) rfl rfl (inC_X5 _) (List.mem_cons_of_mem _ fl_X5_12) dX5_where_12 ?_
    refine lv_iload_n hx hb dX5_where_15 rfl (lv_at hl 2 rfl) ?_
    refine vu_i hP (vu_V S hF hP (h := 1) (hlt _ (by decide)) rfl (by decide) rfl (c_X0_hasTurn l P hA hn w x2) ok_X0_hasTurn ml_X5_203 ⟨Nat.le_of_ble_eq_true rfl, Nat.le_of_ble_eq_true rfl⟩ rfl hl.1 rfl (Nat.le_of_ble_eq_true rfl) dX5_where_16 ⟨Nat.le_of_ble_eq_true rfl, Nat.le_of_ble_eq_true rfl⟩) (fun H locs ho6 hP => ?_)
    refine lv_if_eq (tgt := 26) hx hb dX5_where_19 (by decide) (fun c10 => ?_) (fun c10 => ?_)
    · rw [if_pos c10] at h
      exact hB26 _ _ _ _ h _ _ _ hP (lv_sub hl [0, 1, 2, 3] rfl)
    · rw [if_neg c10] at h
      refine lv_iconst (v := 1) hx hb dX5_where_22 (by decide) ?_
      refine lv_goto (tgt := 27) hx hb dX5_where_23 (by decide) ?_
      exact hB27 _ _ _ _ _ h _ _ _ hP (lv_sub hl [0, 1, 2, 3] rfl)
set_option maxRecDepth 100000 in
set_option maxHeartbeats 4000000 in
theorem n_X5_far (l : Launch) (P : Pl) (hA : Adr P) (hn : 26 ≤ P.2.2.2.1) (w : Wo) (x1 : Int32) (x2 : Int32) {r : (Int32 × Wo)} (h : F_X5_far w x1 x2 = some (Sum.inr r)) : CtI l P yX5_far cX5_far 3 (some .int) 7 [.ref (P.2.1 0), .int x1, .int x2] w r.1 r.2 := by
  have hlt : ∀ h, h < 26 → h < P.2.2.2.1 := fun h q => Nat.lt_of_lt_of_le q hn
  refine vs_met hA (by decide +kernel) (Nat.le_of_ble_eq_true rfl) (fun p e s m args below meth c ls S hF hP hl hr hk => ?_)
  have hx := S.1
  have hb := S.2.1
  replace hl : lv_has ls 3 [(0, .ref (P.2.1 0)), (1, .int x1), (2, .int x2)] := hl
  have hB27 : ∀ (w : Wo) (x1 : Int32) (x2 : Int32) (t0 : Int32), B_X5_far_27 w x1 x2 t0 = some (Sum.inr r) → ∀ (H : Heap) (locs : List Loc) (ls : Array Slot), St P s w H locs → lv_has ls 3 [(0, .ref (P.2.1 0)), (1, .int x1), (2, .int x2)] → W p l e (rmU 7 0 0) s m args below meth c H locs 0 0 (QI P (some .int) r.1 r.2 below args s) (F0 m 27 ls [.int t0]) := by
    intro w x1 x2 t0 h H locs ls hP hl
    unfold B_X5_far_27 at h
    obtain ⟨q2, hq2, h⟩ := ob h
    cases q2 with
    | inl u => cases h
    | inr v3 =>
      rw [Sum.elim_inr] at h
      refine vu_v hP (vu_S S hF hP (n_X5_needIndex l P hA hn w t0 hq2) ok_X5_needIndex ml_X5_146 ⟨Nat.le_of_ble_eq_true rfl, Nat.le_of_ble_eq_true rfl⟩ rfl hl.1 rfl (Nat.le_of_ble_eq_true rfl) dX5_far_27 ⟨Nat.le_of_ble_eq_true rfl, Nat.le_of_ble_eq_true rfl⟩) (fun H locs hP => ?_)
      refine lv_aload_n hx hb dX5_far_30 rfl (lv_at hl 0 rfl) ?_
      refine vt_getR (r := 1) S hF hP (k := 0) (ci := 5) 0 (hlt _ (by decide)) rfl (by decide) rfl (by decide) rfl rfl (inC_X5 _) (List.mem_cons_of_mem _ fl_X5_12) dX5_far_31 ?_
      refine lv_iload_n hx hb dX5_far_34 rfl (lv_at hl 1 rfl) ?_
      refine lv_iload_n hx hb dX5_far_35 rfl (lv_at hl 2 rfl) ?_
      obtain ⟨q4, hq4, h⟩ := ob h
      refine vu_i hP (vu_V S hF hP (h := 1) (hlt _ (by decide)) rfl (by decide) rfl (c_X0_distance l P hA hn v3 x1 x2 hq4) ok_X0_distance ml_X5_221 ⟨Nat.le_of_ble_eq_true rfl, Nat.le_of_ble_eq_true rfl⟩ rfl hl.1 rfl (Nat.le_of_ble_eq_true rfl) dX5_far_36 ⟨Nat.le_of_ble_eq_true rfl, Nat.le_of_ble_eq_true rfl⟩) (fun H locs ho5 hP => ?_)
      obtain rfl := Sum.inr.inj (Option.some.inj h)
      exact ve_i (v := q4) S hF hP hr hk rfl dX5_far_39
  have hB26 : ∀ (w : Wo) (x1 : Int32) (x2 : Int32), B_X5_far_26 w x1 x2 = some (Sum.inr r) → ∀ (H : Heap) (locs : List Loc) (ls : Array Slot), St P s w H locs → lv_has ls 3 [(0, .ref (P.2.1 0)), (1, .int x1), (2, .int x2)] → W p l e (rmU 7 0 0) s m args below meth c H locs 0 0 (QI P (some .int) r.1 r.2 below args s) (F0 m 26 ls []) := by
    intro w x1 x2 h H locs ls hP hl
    unfold B_X5_far_26 at h
    refine lv_iconst (v := 0) hx hb dX5_far_26 (by decide) ?_
    exact hB27 _ _ _ _ h _ _ _ hP (lv_sub hl [0, 1, 2] rfl)
  unfold F_X5_far at h
  refine lv_aload_n hx hb dX5_far_0 rfl (lv_at hl 0 rfl) ?_
  refine vt_getR (r := 1) S hF hP (k := 0) (ci := 5) 0 (hlt _ (by decide)) rfl (by decide) rfl (by decide) rfl rfl (inC_X5 _) (List.mem_cons_of_mem _ fl_X5_12) dX5_far_1 ?_
  refine lv_iload_n hx hb dX5_far_4 rfl (lv_at hl 1 rfl) ?_
  refine vu_i hP (vu_V S hF hP (h := 1) (hlt _ (by decide)) rfl (by decide) rfl (c_X0_hasPlace l P hA hn w x1) ok_X0_hasPlace ml_X5_143 ⟨Nat.le_of_ble_eq_true rfl, Nat.le_of_ble_eq_true rfl⟩ rfl hl.1 rfl (Nat.le_of_ble_eq_true rfl) dX5_far_5 ⟨Nat.le_of_ble_eq_true rfl, Nat.le_of_ble_eq_true rfl⟩) (fun H locs ho1 hP => ?_)
  refine lv_if_eq (tgt := 26) hx hb dX5_far_8 (by decide) (fun c7 => ?_) (fun c7 => ?_)
  · rw [if_pos c7] at h
    exact hB26 _ _ _ h _ _ _ hP (lv_sub hl [0, 1, 2] rfl)
  · rw [if_neg c7] at h
    refine lv_aload_n hx hb dX5_far_11 rfl (lv_at hl 0 rfl) ?_
    refine vt_getR (r := 1) S hF hP (k := 0) (ci := 5) 0 (hlt _ (by decide)) rfl (by decide) rfl (by decide) rfl rfl (inC_X5 _) (List.mem_cons_of_mem _ fl_X5_12) dX5_far_12 ?_
    refine lv_iload_n hx hb dX5_far_15 rfl (lv_at hl 2 rfl) ?_
    refine vu_i hP (vu_V S hF hP (h := 1) (hlt _ (by decide)) rfl (by decide) rfl (c_X0_hasPlace l P hA hn w x2) ok_X0_hasPlace ml_X5_143 ⟨Nat.le_of_ble_eq_true rfl, Nat.le_of_ble_eq_true rfl⟩ rfl hl.1 rfl (Nat.le_of_ble_eq_true rfl) dX5_far_16 ⟨Nat.le_of_ble_eq_true rfl, Nat.le_of_ble_eq_true rfl⟩) (fun H locs ho6 hP => ?_)
    refine lv_if_eq (tgt := 26) hx hb dX5_far_19 (by decide) (fun c8 => ?_) (fun c8 => ?_)
    · rw [if_pos c8] at h
      exact hB26 _ _ _ h _ _ _ hP (lv_sub hl [0, 1, 2] rfl)
    · rw [if_neg c8] at h
      refine lv_iconst (v := 1) hx hb dX5_far_22 (by decide) ?_
      refine lv_goto (tgt := 27) hx hb dX5_far_23 (by decide) ?_
      exact hB27 _ _ _ _ h _ _ _ hP (lv_sub hl [0, 1, 2] rfl)
set_option maxRecDepth 100000 in
set_option maxHeartbeats 4000000 in
theorem n_X5_ranked (l : Launch) (P : Pl) (hA : Adr P) (hn : 26 ≤ P.2.2.2.1) (w : Wo) (x1 : Int32) {r : (Int32 × Wo)} (h : F_X5_ranked w x1 = some (Sum.inr r)) : CtI l P yX5_ranked cX5_ranked 3 (some .int) 6 [.ref (P.2.1 0), .int x1] w r.1 r.2 := by
  have hlt : ∀ h, h < 26 → h < P.2.2.2.1 := fun h q => Nat.lt_of_lt_of_le q hn
  refine vs_met hA (by decide +kernel) (Nat.le_of_ble_eq_true rfl) (fun p e s m args below meth c ls S hF hP hl hr hk => ?_)
  have hx := S.1
  have hb := S.2.1
  replace hl : lv_has ls 3 [(0, .ref (P.2.1 0)), (1, .int x1)] := hl
  unfold F_X5_ranked at h
  refine lv_aload_n hx hb dX5_ranked_0 rfl (lv_at hl 0 rfl) ?_
  refine vt_getR (r := 1) S hF hP (k := 0) (ci := 5) 0 (hlt _ (by decide)) rfl (by decide) rfl (by decide) rfl rfl (inC_X5 _) (List.mem_cons_of_mem _ fl_X5_12) dX5_ranked_1 ?_
  refine lv_iload_n hx hb dX5_ranked_4 rfl (lv_at hl 1 rfl) ?_
  obtain ⟨q1, hq1, h⟩ := ob h
  refine vu_i hP (vu_V S hF hP (h := 1) (hlt _ (by decide)) rfl (by decide) rfl (c_X0_lineByVowels l P hA hn w x1 hq1) ok_X0_lineByVowels ml_X5_231 ⟨Nat.le_of_ble_eq_true rfl, Nat.le_of_ble_eq_true rfl⟩ rfl hl.1 rfl (Nat.le_of_ble_eq_true rfl) dX5_ranked_5 ⟨Nat.le_of_ble_eq_true rfl, Nat.le_of_ble_eq_true rfl⟩) (fun H locs ho2 hP => ?_)
  refine lv_istore_n (lv' := [(2, .int q1), (0, .ref (P.2.1 0)), (1, .int x1)]) hx hb dX5_ranked_8 rfl hl (by decide) rfl (fun ls hl => ?_)
  refine lv_iload_n hx hb dX5_ranked_9 rfl (lv_at hl 0 rfl) ?_
  refine lv_if_ge (tgt := 23) hx hb dX5_ranked_10 (by decide) (fun c3 => ?_) (fun c3 => ?_)
  · rw [if_pos c3] at h
    refine lv_iload_n hx hb dX5_ranked_23 rfl (lv_at hl 0 rfl) ?_
    obtain rfl := Sum.inr.inj (Option.some.inj h)
    exact ve_i (v := q1) S hF hP hr hk rfl dX5_ranked_24
  · rw [if_neg c3] at h
    cases h
set_option maxRecDepth 100000 in
set_option maxHeartbeats 4000000 in
theorem n_X5_lineText (l : Launch) (P : Pl) (hA : Adr P) (hn : 26 ≤ P.2.2.2.1) (w : Wo) (x1 : Int32) {r : (Int32 × Wo)} (h : F_X5_lineText w x1 = some (Sum.inr r)) : CtI l P yX5_lineText cX5_lineText 3 (some .int) 7 [.ref (P.2.1 0), .int x1] w r.1 r.2 := by
  have hlt : ∀ h, h < 26 → h < P.2.2.2.1 := fun h q => Nat.lt_of_lt_of_le q hn
  refine vs_met hA (by decide +kernel) (Nat.le_of_ble_eq_true rfl) (fun p e s m args below meth c ls S hF hP hl hr hk => ?_)
  have hx := S.1
  have hb := S.2.1
  replace hl : lv_has ls 3 [(0, .ref (P.2.1 0)), (1, .int x1)] := hl
  have hB107 : ∀ (w : Wo), B_X5_lineText_107 w = some (Sum.inr r) → ∀ (H : Heap) (locs : List Loc) (ls : Array Slot), St P s w H locs → lv_has ls 3 [(0, .ref (P.2.1 0))] → W p l e (rmU 7 0 0) s m args below meth c H locs 0 0 (QI P (some .int) r.1 r.2 below args s) (F0 m 107 ls []) := by
    intro w h H locs ls hP hl
    unfold B_X5_lineText_107 at h
    refine lv_aload_n hx hb dX5_lineText_107 rfl (lv_at hl 0 rfl) ?_
    refine vt_getR (r := 19) S hF hP (k := 5) (ci := 5) 0 (hlt _ (by decide)) rfl (by decide) rfl (by decide) rfl rfl (inC_X5 _) (List.mem_cons_of_mem _ fl_X5_39) dX5_lineText_108 ?_
    refine vt_getI S hF hP (k := 1) (ci := 3) 19 (hlt _ (by decide)) rfl (by decide) rfl (by decide) rfl (inC_X3 _) (List.mem_cons_of_mem _ fl_X5_253) dX5_lineText_111 ?_
    obtain rfl := Sum.inr.inj (Option.some.inj h)
    exact ve_i (v := (gI w 19 1)) S hF hP hr hk rfl dX5_lineText_114
  have hB87 : ∀ (w : Wo) (x1 : Int32), B_X5_lineText_87 w x1 = some (Sum.inr r) → ∀ (H : Heap) (locs : List Loc) (ls : Array Slot), St P s w H locs → lv_has ls 3 [(0, .ref (P.2.1 0)), (1, .int x1)] → W p l e (rmU 7 0 0) s m args below meth c H locs 0 0 (QI P (some .int) r.1 r.2 below args s) (F0 m 87 ls []) := by
    intro w x1 h H locs ls hP hl
    unfold B_X5_lineText_87 at h
    refine lv_aload_n hx hb dX5_lineText_87 rfl (lv_at hl 0 rfl) ?_
    refine vt_getR (r := 1) S hF hP (k := 0) (ci := 5) 0 (hlt _ (by decide)) rfl (by decide) rfl (by decide) rfl rfl (inC_X5 _) (List.mem_cons_of_mem _ fl_X5_12) dX5_lineText_88 ?_
    refine lv_iload_n hx hb dX5_lineText_91 rfl (lv_at hl 1 rfl) ?_
    obtain ⟨q7, hq7, h⟩ := ob h
    refine vu_i hP (vu_V S hF hP (h := 1) (hlt _ (by decide)) rfl (by decide) rfl (c_X0_hasSong l P hA hn w x1 hq7) ok_X0_hasSong ml_X5_225 ⟨Nat.le_of_ble_eq_true rfl, Nat.le_of_ble_eq_true rfl⟩ rfl hl.1 rfl (Nat.le_of_ble_eq_true rfl) dX5_lineText_92 ⟨Nat.le_of_ble_eq_true rfl, Nat.le_of_ble_eq_true rfl⟩) (fun H locs ho8 hP => ?_)
    refine lv_if_eq (tgt := 107) hx hb dX5_lineText_95 (by decide) (fun c15 => ?_) (fun c15 => ?_)
    · rw [if_pos c15] at h
      exact hB107 _ h _ _ _ hP (lv_sub hl [0] rfl)
    · rw [if_neg c15] at h
      refine lv_aload_n hx hb dX5_lineText_98 rfl (lv_at hl 0 rfl) ?_
      refine vt_getR (r := 19) S hF hP (k := 5) (ci := 5) 0 (hlt _ (by decide)) rfl (by decide) rfl (by decide) rfl rfl (inC_X5 _) (List.mem_cons_of_mem _ fl_X5_39) dX5_lineText_99 ?_
      refine lv_bipush (v := 33) hx hb dX5_lineText_102 (by decide) ?_
      obtain ⟨q9, hq9, h⟩ := ob h
      refine vu_v hP (vu_V S hF hP (h := 19) (hlt _ (by decide)) rfl (by decide) rfl (c_X3_add l P hA hn w 33 hq9) ok_X3_add ml_X5_243 ⟨Nat.le_of_ble_eq_true rfl, Nat.le_of_ble_eq_true rfl⟩ rfl hl.1 rfl (Nat.le_of_ble_eq_true rfl) dX5_lineText_104 ⟨Nat.le_of_ble_eq_true rfl, Nat.le_of_ble_eq_true rfl⟩) (fun H locs hP => ?_)
      exact hB107 _ h _ _ _ hP (lv_sub hl [0] rfl)
  have hL40 : ∀ (x1 : Int32) (n : Nat) (w : Wo) (x2 : Int32), jl2 (B_X5_lineText_40 x1) n w x2 = some (Sum.inr r) → ∀ (H : Heap) (locs : List Loc) (ls : Array Slot), St P s w H locs → lv_has ls 3 [(0, .ref (P.2.1 0)), (1, .int x1), (2, .int x2)] → W p l e (rmU 7 0 0) s m args below meth c H locs 0 0 (QI P (some .int) r.1 r.2 below args s) (F0 m 40 ls []) := by
    intro x1
    intro n
    induction n with
    | zero =>
      intro w x2 h
      cases h
    | succ n ih40 =>
      intro w x2 h H locs ls hP hl
      replace h : B_X5_lineText_40 x1 (jl2 (B_X5_lineText_40 x1) n) w x2 = some (Sum.inr r) := h
      revert h ih40
      generalize jl2 (B_X5_lineText_40 x1) n = k40
      intro ih40 h
      unfold B_X5_lineText_40 at h
      refine lv_iload_n hx hb dX5_lineText_40 rfl (lv_at hl 2 rfl) ?_
      refine lv_aload_n hx hb dX5_lineText_41 rfl (lv_at hl 0 rfl) ?_
      refine vt_getR (r := 1) S hF hP (k := 0) (ci := 5) 0 (hlt _ (by decide)) rfl (by decide) rfl (by decide) rfl rfl (inC_X5 _) (List.mem_cons_of_mem _ fl_X5_12) dX5_lineText_42 ?_
      refine lv_iload_n hx hb dX5_lineText_45 rfl (lv_at hl 1 rfl) ?_
      refine vu_i hP (vu_V S hF hP (h := 1) (hlt _ (by decide)) rfl (by decide) rfl (c_X0_lineLength l P hA hn w x1) ok_X0_lineLength ml_X5_247 ⟨Nat.le_of_ble_eq_true rfl, Nat.le_of_ble_eq_true rfl⟩ rfl hl.1 rfl (Nat.le_of_ble_eq_true rfl) dX5_lineText_46 ⟨Nat.le_of_ble_eq_true rfl, Nat.le_of_ble_eq_true rfl⟩) (fun H locs ho6 hP => ?_)
      refine lv_icmp_ge (tgt := 87) hx hb dX5_lineText_49 (by decide) (fun c16 => ?_) (fun c16 => ?_)
      · rw [if_pos c16] at h
        exact hB87 _ _ h _ _ _ hP (lv_sub hl [0, 1] rfl)
      · rw [if_neg c16] at h
        refine lv_aload_n hx hb dX5_lineText_52 rfl (lv_at hl 0 rfl) ?_
        refine vt_getR (r := 19) S hF hP (k := 5) (ci := 5) 0 (hlt _ (by decide)) rfl (by decide) rfl (by decide) rfl rfl (inC_X5 _) (List.mem_cons_of_mem _ fl_X5_39) dX5_lineText_53 ?_
        refine lv_aload_n hx hb dX5_lineText_56 rfl (lv_at hl 0 rfl) ?_
        refine vt_getR (r := 1) S hF hP (k := 0) (ci := 5) 0 (hlt _ (by decide)) rfl (by decide) rfl (by decide) rfl rfl (inC_X5 _) (List.mem_cons_of_mem _ fl_X5_12) dX5_lineText_57 ?_
        refine vt_getL S hF hP (k := 2) (ci := 0) 1 (hlt _ (by decide)) rfl (by decide) rfl (by decide) rfl (inC_X0 _) (List.mem_cons_of_mem _ fl_X5_83) dX5_lineText_60 ?_
        refine lv_aload_n hx hb dX5_lineText_63 rfl (lv_at hl 0 rfl) ?_
        refine vt_getR (r := 1) S hF hP (k := 0) (ci := 5) 0 (hlt _ (by decide)) rfl (by decide) rfl (by decide) rfl rfl (inC_X5 _) (List.mem_cons_of_mem _ fl_X5_12) dX5_lineText_64 ?_
        refine lv_iload_n hx hb dX5_lineText_67 rfl (lv_at hl 1 rfl) ?_
        refine lv_iload_n hx hb dX5_lineText_68 rfl (lv_at hl 2 rfl) ?_
        refine vu_i hP (vu_V S hF hP (h := 1) (hlt _ (by decide)) rfl (by decide) rfl (c_X0_placeOn l P hA hn w x1 x2) ok_X0_placeOn ml_X5_250 ⟨Nat.le_of_ble_eq_true rfl, Nat.le_of_ble_eq_true rfl⟩ rfl hl.1 rfl (Nat.le_of_ble_eq_true rfl) dX5_lineText_69 ⟨Nat.le_of_ble_eq_true rfl, Nat.le_of_ble_eq_true rfl⟩) (fun H locs ho10 hP => ?_)
        refine vu_i hP (vu_S S hF hP (c_X5_codeAt l P hA hn w (gL w 1 2) (F_X0_placeOn w x1 x2)) ok_X5_codeAt ml_X5_91 ⟨Nat.le_of_ble_eq_true rfl, Nat.le_of_ble_eq_true rfl⟩ rfl hl.1 rfl (Nat.le_of_ble_eq_true rfl) dX5_lineText_72 ⟨Nat.le_of_ble_eq_true rfl, Nat.le_of_ble_eq_true rfl⟩) (fun H locs ho11 hP => ?_)
        refine vu_i hP (vu_S S hF hP (c_X5_signOf l P hA hn w (F_X5_codeAt (gL w 1 2) (F_X0_placeOn w x1 x2))) ok_X5_signOf ml_X5_95 ⟨Nat.le_of_ble_eq_true rfl, Nat.le_of_ble_eq_true rfl⟩ rfl hl.1 rfl (Nat.le_of_ble_eq_true rfl) dX5_lineText_75 ⟨Nat.le_of_ble_eq_true rfl, Nat.le_of_ble_eq_true rfl⟩) (fun H locs ho12 hP => ?_)
        obtain ⟨q13, hq13, h⟩ := ob h
        refine vu_v hP (vu_V S hF hP (h := 19) (hlt _ (by decide)) rfl (by decide) rfl (c_X3_add l P hA hn w (F_X5_signOf (F_X5_codeAt (gL w 1 2) (F_X0_placeOn w x1 x2))) hq13) ok_X3_add ml_X5_243 ⟨Nat.le_of_ble_eq_true rfl, Nat.le_of_ble_eq_true rfl⟩ rfl hl.1 rfl (Nat.le_of_ble_eq_true rfl) dX5_lineText_78 ⟨Nat.le_of_ble_eq_true rfl, Nat.le_of_ble_eq_true rfl⟩) (fun H locs hP => ?_)
        refine lv_iinc (v := (x2 + 1)) (lv' := [(2, .int (x2 + 1)), (0, .ref (P.2.1 0)), (1, .int x1)]) hx hb dX5_lineText_81 hl (k := 2) rfl rfl (by decide) rfl (fun ls hl => ?_)
        refine lv_goto (tgt := 40) hx hb dX5_lineText_84 (by decide) ?_
        exact ih40 _ _ h _ _ _ hP (lv_sub hl [1, 2, 0] rfl)
  have hB38 : ∀ (w : Wo) (x1 : Int32), B_X5_lineText_38 w x1 = some (Sum.inr r) → ∀ (H : Heap) (locs : List Loc) (ls : Array Slot), St P s w H locs → lv_has ls 3 [(0, .ref (P.2.1 0)), (1, .int x1)] → W p l e (rmU 7 0 0) s m args below meth c H locs 0 0 (QI P (some .int) r.1 r.2 below args s) (F0 m 38 ls []) := by
    intro w x1 h H locs ls hP hl
    unfold B_X5_lineText_38 at h
    refine lv_iconst (v := 0) hx hb dX5_lineText_38 (by decide) ?_
    refine lv_istore_n (lv' := [(2, .int 0), (0, .ref (P.2.1 0)), (1, .int x1)]) hx hb dX5_lineText_39 rfl hl (by decide) rfl (fun ls hl => ?_)
    exact hL40 _ fu _ _ h _ _ _ hP (lv_sub hl [1, 2, 0] rfl)
  unfold F_X5_lineText at h
  refine lv_aload_n hx hb dX5_lineText_0 rfl (lv_at hl 0 rfl) ?_
  refine vt_getR (r := 1) S hF hP (k := 0) (ci := 5) 0 (hlt _ (by decide)) rfl (by decide) rfl (by decide) rfl rfl (inC_X5 _) (List.mem_cons_of_mem _ fl_X5_12) dX5_lineText_1 ?_
  refine lv_iload_n hx hb dX5_lineText_4 rfl (lv_at hl 1 rfl) ?_
  refine vu_i hP (vu_V S hF hP (h := 1) (hlt _ (by decide)) rfl (by decide) rfl (c_X0_hasLine l P hA hn w x1) ok_X0_hasLine ml_X5_150 ⟨Nat.le_of_ble_eq_true rfl, Nat.le_of_ble_eq_true rfl⟩ rfl hl.1 rfl (Nat.le_of_ble_eq_true rfl) dX5_lineText_5 ⟨Nat.le_of_ble_eq_true rfl, Nat.le_of_ble_eq_true rfl⟩) (fun H locs ho1 hP => ?_)
  obtain ⟨q2, hq2, h⟩ := ob h
  cases q2 with
  | inl u => cases h
  | inr v3 =>
    rw [Sum.elim_inr] at h
    refine vu_v hP (vu_S S hF hP (n_X5_needIndex l P hA hn w (F_X0_hasLine w x1) hq2) ok_X5_needIndex ml_X5_146 ⟨Nat.le_of_ble_eq_true rfl, Nat.le_of_ble_eq_true rfl⟩ rfl hl.1 rfl (Nat.le_of_ble_eq_true rfl) dX5_lineText_8 ⟨Nat.le_of_ble_eq_true rfl, Nat.le_of_ble_eq_true rfl⟩) (fun H locs hP => ?_)
    refine lv_aload_n hx hb dX5_lineText_11 rfl (lv_at hl 0 rfl) ?_
    refine vt_getR (r := 19) S hF hP (k := 5) (ci := 5) 0 (hlt _ (by decide)) rfl (by decide) rfl (by decide) rfl rfl (inC_X5 _) (List.mem_cons_of_mem _ fl_X5_39) dX5_lineText_12 ?_
    obtain ⟨q4, hq4, h⟩ := ob h
    refine vu_v hP (vu_V S hF hP (h := 19) (hlt _ (by decide)) rfl (by decide) rfl (c_X3_clear l P hA hn v3 hq4) ok_X3_clear ml_X5_240 ⟨Nat.le_of_ble_eq_true rfl, Nat.le_of_ble_eq_true rfl⟩ rfl hl.1 rfl (Nat.le_of_ble_eq_true rfl) dX5_lineText_15 ⟨Nat.le_of_ble_eq_true rfl, Nat.le_of_ble_eq_true rfl⟩) (fun H locs hP => ?_)
    refine lv_aload_n hx hb dX5_lineText_18 rfl (lv_at hl 0 rfl) ?_
    refine vt_getR (r := 1) S hF hP (k := 0) (ci := 5) 0 (hlt _ (by decide)) rfl (by decide) rfl (by decide) rfl rfl (inC_X5 _) (List.mem_cons_of_mem _ fl_X5_12) dX5_lineText_19 ?_
    refine lv_iload_n hx hb dX5_lineText_22 rfl (lv_at hl 1 rfl) ?_
    refine vu_i hP (vu_V S hF hP (h := 1) (hlt _ (by decide)) rfl (by decide) rfl (c_X0_hasBar l P hA hn q4 x1) ok_X0_hasBar ml_X5_106 ⟨Nat.le_of_ble_eq_true rfl, Nat.le_of_ble_eq_true rfl⟩ rfl hl.1 rfl (Nat.le_of_ble_eq_true rfl) dX5_lineText_23 ⟨Nat.le_of_ble_eq_true rfl, Nat.le_of_ble_eq_true rfl⟩) (fun H locs ho5 hP => ?_)
    refine lv_if_eq (tgt := 38) hx hb dX5_lineText_26 (by decide) (fun c17 => ?_) (fun c17 => ?_)
    · rw [if_pos c17] at h
      exact hB38 _ _ h _ _ _ hP (lv_sub hl [0, 1] rfl)
    · rw [if_neg c17] at h
      refine lv_aload_n hx hb dX5_lineText_29 rfl (lv_at hl 0 rfl) ?_
      refine vt_getR (r := 19) S hF hP (k := 5) (ci := 5) 0 (hlt _ (by decide)) rfl (by decide) rfl (by decide) rfl rfl (inC_X5 _) (List.mem_cons_of_mem _ fl_X5_39) dX5_lineText_30 ?_
      refine lv_bipush (v := 35) hx hb dX5_lineText_33 (by decide) ?_
      obtain ⟨q14, hq14, h⟩ := ob h
      refine vu_v hP (vu_V S hF hP (h := 19) (hlt _ (by decide)) rfl (by decide) rfl (c_X3_add l P hA hn q4 35 hq14) ok_X3_add ml_X5_243 ⟨Nat.le_of_ble_eq_true rfl, Nat.le_of_ble_eq_true rfl⟩ rfl hl.1 rfl (Nat.le_of_ble_eq_true rfl) dX5_lineText_35 ⟨Nat.le_of_ble_eq_true rfl, Nat.le_of_ble_eq_true rfl⟩) (fun H locs hP => ?_)
      exact hB38 _ _ h _ _ _ hP (lv_sub hl [0, 1] rfl)
set_option maxRecDepth 100000 in
set_option maxHeartbeats 4000000 in
theorem n_X5_character (l : Launch) (P : Pl) (hA : Adr P) (hn : 26 ≤ P.2.2.2.1) (w : Wo) (x1 : Int32) {r : (Int32 × Wo)} (h : F_X5_character w x1 = some (Sum.inr r)) : CtI l P yX5_character cX5_character 2 (some .char) 7 [.ref (P.2.1 0), .int x1] w r.1 r.2 := by
  have hlt : ∀ h, h < 26 → h < P.2.2.2.1 := fun h q => Nat.lt_of_lt_of_le q hn
  refine vs_met hA (by decide +kernel) (Nat.le_of_ble_eq_true rfl) (fun p e s m args below meth c ls S hF hP hl hr hk => ?_)
  have hx := S.1
  have hb := S.2.1
  replace hl : lv_has ls 2 [(0, .ref (P.2.1 0)), (1, .int x1)] := hl
  have hB20 : ∀ (w : Wo) (x1 : Int32) (t0 : Int32), B_X5_character_20 w x1 t0 = some (Sum.inr r) → ∀ (H : Heap) (locs : List Loc) (ls : Array Slot), St P s w H locs → lv_has ls 2 [(0, .ref (P.2.1 0)), (1, .int x1)] → W p l e (rmU 7 0 0) s m args below meth c H locs 0 0 (QI P (some .char) r.1 r.2 below args s) (F0 m 20 ls [.int t0]) := by
    intro w x1 t0 h H locs ls hP hl
    unfold B_X5_character_20 at h
    obtain ⟨q1, hq1, h⟩ := ob h
    cases q1 with
    | inl u => cases h
    | inr v2 =>
      rw [Sum.elim_inr] at h
      refine vu_v hP (vu_S S hF hP (n_X5_needIndex l P hA hn w t0 hq1) ok_X5_needIndex ml_X5_146 ⟨Nat.le_of_ble_eq_true rfl, Nat.le_of_ble_eq_true rfl⟩ rfl hl.1 rfl (Nat.le_of_ble_eq_true rfl) dX5_character_20 ⟨Nat.le_of_ble_eq_true rfl, Nat.le_of_ble_eq_true rfl⟩) (fun H locs hP => ?_)
      refine lv_aload_n hx hb dX5_character_23 rfl (lv_at hl 0 rfl) ?_
      refine vt_getR (r := 19) S hF hP (k := 5) (ci := 5) 0 (hlt _ (by decide)) rfl (by decide) rfl (by decide) rfl rfl (inC_X5 _) (List.mem_cons_of_mem _ fl_X5_39) dX5_character_24 ?_
      refine lv_iload_n hx hb dX5_character_27 rfl (lv_at hl 1 rfl) ?_
      obtain ⟨q3, hq3, h⟩ := ob h
      refine vu_i hP (vu_V S hF hP (h := 19) (hlt _ (by decide)) rfl (by decide) rfl (c_X3_signAt l P hA hn v2 x1 hq3) ok_X3_signAt ml_X5_256 ⟨Nat.le_of_ble_eq_true rfl, Nat.le_of_ble_eq_true rfl⟩ rfl hl.1 rfl (Nat.le_of_ble_eq_true rfl) dX5_character_28 ⟨Nat.le_of_ble_eq_true rfl, Nat.le_of_ble_eq_true rfl⟩) (fun H locs ho4 hP => ?_)
      obtain rfl := Sum.inr.inj (Option.some.inj h)
      exact ve_i (v := q3) S hF hP hr hk ho4 dX5_character_31
  have hB19 : ∀ (w : Wo) (x1 : Int32), B_X5_character_19 w x1 = some (Sum.inr r) → ∀ (H : Heap) (locs : List Loc) (ls : Array Slot), St P s w H locs → lv_has ls 2 [(0, .ref (P.2.1 0)), (1, .int x1)] → W p l e (rmU 7 0 0) s m args below meth c H locs 0 0 (QI P (some .char) r.1 r.2 below args s) (F0 m 19 ls []) := by
    intro w x1 h H locs ls hP hl
    unfold B_X5_character_19 at h
    refine lv_iconst (v := 0) hx hb dX5_character_19 (by decide) ?_
    exact hB20 _ _ _ h _ _ _ hP (lv_sub hl [0, 1] rfl)
  unfold F_X5_character at h
  refine lv_iload_n hx hb dX5_character_0 rfl (lv_at hl 1 rfl) ?_
  refine lv_if_lt (tgt := 19) hx hb dX5_character_1 (by decide) (fun c5 => ?_) (fun c5 => ?_)
  · rw [if_pos c5] at h
    exact hB19 _ _ h _ _ _ hP (lv_sub hl [0, 1] rfl)
  · rw [if_neg c5] at h
    refine lv_iload_n hx hb dX5_character_4 rfl (lv_at hl 1 rfl) ?_
    refine lv_aload_n hx hb dX5_character_5 rfl (lv_at hl 0 rfl) ?_
    refine vt_getR (r := 19) S hF hP (k := 5) (ci := 5) 0 (hlt _ (by decide)) rfl (by decide) rfl (by decide) rfl rfl (inC_X5 _) (List.mem_cons_of_mem _ fl_X5_39) dX5_character_6 ?_
    refine vt_getI S hF hP (k := 1) (ci := 3) 19 (hlt _ (by decide)) rfl (by decide) rfl (by decide) rfl (inC_X3 _) (List.mem_cons_of_mem _ fl_X5_253) dX5_character_9 ?_
    refine lv_icmp_ge (tgt := 19) hx hb dX5_character_12 (by decide) (fun c6 => ?_) (fun c6 => ?_)
    · rw [if_pos c6] at h
      exact hB19 _ _ h _ _ _ hP (lv_sub hl [0, 1] rfl)
    · rw [if_neg c6] at h
      refine lv_iconst (v := 1) hx hb dX5_character_15 (by decide) ?_
      refine lv_goto (tgt := 20) hx hb dX5_character_16 (by decide) ?_
      exact hB20 _ _ _ h _ _ _ hP (lv_sub hl [0, 1] rfl)
set_option maxRecDepth 100000 in
set_option maxHeartbeats 4000000 in
theorem n_X5_append (l : Launch) (P : Pl) (hA : Adr P) (hn : 26 ≤ P.2.2.2.1) (w : Wo) (x1 : Int32) {r : (Int32 × Wo)} (h : F_X5_append w x1 = some (Sum.inr r)) : CtI l P yX5_append cX5_append 2 (some .int) 6 [.ref (P.2.1 0), .int x1] w r.1 r.2 := by
  have hlt : ∀ h, h < 26 → h < P.2.2.2.1 := fun h q => Nat.lt_of_lt_of_le q hn
  refine vs_met hA (by decide +kernel) (Nat.le_of_ble_eq_true rfl) (fun p e s m args below meth c ls S hF hP hl hr hk => ?_)
  have hx := S.1
  have hb := S.2.1
  replace hl : lv_has ls 2 [(0, .ref (P.2.1 0)), (1, .int x1)] := hl
  have hB19 : ∀ (w : Wo), B_X5_append_19 w = some (Sum.inr r) → ∀ (H : Heap) (locs : List Loc) (ls : Array Slot), St P s w H locs → lv_has ls 2 [] → W p l e (rmU 6 0 0) s m args below meth c H locs 0 0 (QI P (some .int) r.1 r.2 below args s) (F0 m 19 ls []) := by
    intro w h H locs ls hP hl
    unfold B_X5_append_19 at h
    cases h
  have hB50 : ∀ (w : Wo), B_X5_append_50 w = some (Sum.inr r) → ∀ (H : Heap) (locs : List Loc) (ls : Array Slot), St P s w H locs → lv_has ls 2 [(0, .ref (P.2.1 0))] → W p l e (rmU 6 0 0) s m args below meth c H locs 0 0 (QI P (some .int) r.1 r.2 below args s) (F0 m 50 ls []) := by
    intro w h H locs ls hP hl
    unfold B_X5_append_50 at h
    refine lv_aload_n hx hb dX5_append_50 rfl (lv_at hl 0 rfl) ?_
    refine vt_getI S hF hP (k := 8) (ci := 5) 0 (hlt _ (by decide)) rfl (by decide) rfl (by decide) rfl (inC_X5 _) (List.mem_cons_of_mem _ fl_X5_54) dX5_append_51 ?_
    obtain rfl := Sum.inr.inj (Option.some.inj h)
    exact ve_i (v := (gI w 0 8)) S hF hP hr hk rfl dX5_append_54
  have hB40 : ∀ (w : Wo), B_X5_append_40 w = some (Sum.inr r) → ∀ (H : Heap) (locs : List Loc) (ls : Array Slot), St P s w H locs → lv_has ls 2 [(0, .ref (P.2.1 0))] → W p l e (rmU 6 0 0) s m args below meth c H locs 0 0 (QI P (some .int) r.1 r.2 below args s) (F0 m 40 ls []) := by
    intro w h H locs ls hP hl
    unfold B_X5_append_40 at h
    refine lv_aload_n hx hb dX5_append_40 rfl (lv_at hl 0 rfl) ?_
    refine lv_dup hx hb dX5_append_41 rfl ?_
    refine vt_getI S hF hP (k := 8) (ci := 5) 0 (hlt _ (by decide)) rfl (by decide) rfl (by decide) rfl (inC_X5 _) (List.mem_cons_of_mem _ fl_X5_54) dX5_append_42 ?_
    refine lv_iconst (v := 1) hx hb dX5_append_45 (by decide) ?_
    refine lv_iadd hx hb dX5_append_46 ?_
    refine vt_putI S hF hP (k := 8) (ci := 5) 0 (hlt _ (by decide)) rfl (by decide) rfl (by decide) rfl tyX5 tyX5_ok nmX5 rfl rfl rfl rfl (by decide) (inC_X5 _) (List.mem_cons_of_mem _ fl_X5_54) dX5_append_47 (fun H locs hP => ?_)
    exact hB50 _ h _ _ _ hP (lv_sub hl [0] rfl)
  unfold F_X5_append at h
  refine lv_aload_n hx hb dX5_append_0 rfl (lv_at hl 0 rfl) ?_
  refine vt_getI S hF hP (k := 8) (ci := 5) 0 (hlt _ (by decide)) rfl (by decide) rfl (by decide) rfl (inC_X5 _) (List.mem_cons_of_mem _ fl_X5_54) dX5_append_1 ?_
  refine lv_if_lt (tgt := 19) hx hb dX5_append_4 (by decide) (fun c1 => ?_) (fun c1 => ?_)
  · rw [if_pos c1] at h
    exact hB19 _ h _ _ _ hP (lv_sub hl [] rfl)
  · rw [if_neg c1] at h
    refine lv_aload_n hx hb dX5_append_7 rfl (lv_at hl 0 rfl) ?_
    refine vt_getI S hF hP (k := 8) (ci := 5) 0 (hlt _ (by decide)) rfl (by decide) rfl (by decide) rfl (inC_X5 _) (List.mem_cons_of_mem _ fl_X5_54) dX5_append_8 ?_
    refine lv_aload_n hx hb dX5_append_11 rfl (lv_at hl 0 rfl) ?_
    refine vt_getR (r := 25) S hF hP (k := 7) (ci := 5) 0 (hlt _ (by decide)) rfl (by decide) rfl (by decide) rfl rfl (inC_X5 _) (List.mem_cons_of_mem _ fl_X5_50) dX5_append_12 ?_
    refine vt_alen (v := 60) S hF hP (hlt _ (by decide)) rfl (by decide) rfl dX5_append_15 ?_
    refine lv_icmp_lt (tgt := 30) hx hb dX5_append_16 (by decide) (fun c2 => ?_) (fun c2 => ?_)
    · rw [if_pos c2] at h
      refine lv_aload_n hx hb dX5_append_30 rfl (lv_at hl 0 rfl) ?_
      refine vt_getR (r := 25) S hF hP (k := 7) (ci := 5) 0 (hlt _ (by decide)) rfl (by decide) rfl (by decide) rfl rfl (inC_X5 _) (List.mem_cons_of_mem _ fl_X5_50) dX5_append_31 ?_
      refine lv_aload_n hx hb dX5_append_34 rfl (lv_at hl 0 rfl) ?_
      refine vt_getI S hF hP (k := 8) (ci := 5) 0 (hlt _ (by decide)) rfl (by decide) rfl (by decide) rfl (inC_X5 _) (List.mem_cons_of_mem _ fl_X5_54) dX5_append_35 ?_
      refine lv_iload_n hx hb dX5_append_38 rfl (lv_at hl 1 rfl) ?_
      obtain ⟨c3, h⟩ := chk h
      refine vt_cast S hF hP (hlt _ (by decide)) rfl c3 dX5_append_39 (fun H locs hP => ?_)
      exact hB40 _ h _ _ _ hP (lv_sub hl [0] rfl)
    · rw [if_neg c2] at h
      exact hB19 _ h _ _ _ hP (lv_sub hl [] rfl)
set_option maxRecDepth 100000 in
set_option maxHeartbeats 4000000 in
theorem n_X5_run (l : Launch) (P : Pl) (hA : Adr P) (hn : 26 ≤ P.2.2.2.1) (w : Wo) {r : (Int32 × Wo)} (h : F_X5_run w = some (Sum.inr r)) : CtI l P yX5_run cX5_run 2 (some .int) 7 [.ref (P.2.1 0)] w r.1 r.2 := by
  have hlt : ∀ h, h < 26 → h < P.2.2.2.1 := fun h q => Nat.lt_of_lt_of_le q hn
  refine vs_met hA (by decide +kernel) (Nat.le_of_ble_eq_true rfl) (fun p e s m args below meth c ls S hF hP hl hr hk => ?_)
  have hx := S.1
  have hb := S.2.1
  replace hl : lv_has ls 2 [(0, .ref (P.2.1 0))] := hl
  have hB50 : ∀ (w : Wo) (t0 : Int32), B_X5_run_50 w t0 = some (Sum.inr r) → ∀ (H : Heap) (locs : List Loc) (ls : Array Slot), St P s w H locs → lv_has ls 2 [(0, .ref (P.2.1 0))] → W p l e (rmU 7 0 0) s m args below meth c H locs 0 0 (QI P (some .int) r.1 r.2 below args s) (F0 m 50 ls [.int t0]) := by
    intro w t0 h H locs ls hP hl
    unfold B_X5_run_50 at h
    obtain ⟨q3, hq3, h⟩ := ob h
    cases q3 with
    | inl u => cases h
    | inr v4 =>
      rw [Sum.elim_inr] at h
      refine vu_v hP (vu_S S hF hP (n_X5_raise l P hA hn w t0 hq3) ok_X5_raise ml_X5_116 ⟨Nat.le_of_ble_eq_true rfl, Nat.le_of_ble_eq_true rfl⟩ rfl hl.1 rfl (Nat.le_of_ble_eq_true rfl) dX5_run_50 ⟨Nat.le_of_ble_eq_true rfl, Nat.le_of_ble_eq_true rfl⟩) (fun H locs hP => ?_)
      refine lv_aload_n hx hb dX5_run_53 rfl (lv_at hl 0 rfl) ?_
      refine vt_getR (r := 21) S hF hP (k := 6) (ci := 5) 0 (hlt _ (by decide)) rfl (by decide) rfl (by decide) rfl rfl (inC_X5 _) (List.mem_cons_of_mem _ fl_X5_46) dX5_run_54 ?_
      refine vt_getI S hF hP (k := 6) (ci := 4) 21 (hlt _ (by decide)) rfl (by decide) rfl (by decide) rfl (inC_X4 _) (List.mem_cons_of_mem _ fl_X5_271) dX5_run_57 ?_
      obtain rfl := Sum.inr.inj (Option.some.inj h)
      exact ve_i (v := (gI v4 21 6)) S hF hP hr hk rfl dX5_run_60
  have hB39 : ∀ (w : Wo) (t0 : Int32), B_X5_run_39 w t0 = some (Sum.inr r) → ∀ (H : Heap) (locs : List Loc) (ls : Array Slot), St P s w H locs → lv_has ls 2 [(0, .ref (P.2.1 0))] → W p l e (rmU 7 0 0) s m args below meth c H locs 0 0 (QI P (some .int) r.1 r.2 below args s) (F0 m 39 ls [.int t0]) := by
    intro w t0 h H locs ls hP hl
    unfold B_X5_run_39 at h
    refine lv_istore_n (lv' := [(1, .int t0), (0, .ref (P.2.1 0))]) hx hb dX5_run_39 rfl hl (by decide) rfl (fun ls hl => ?_)
    refine lv_iload_n hx hb dX5_run_40 rfl (lv_at hl 0 rfl) ?_
    refine lv_iconst (v := 1) hx hb dX5_run_41 (by decide) ?_
    refine lv_icmp_ne (tgt := 49) hx hb dX5_run_42 (by decide) (fun c7 => ?_) (fun c7 => ?_)
    · rw [if_neg c7] at h
      refine lv_iload_n hx hb dX5_run_49 rfl (lv_at hl 0 rfl) ?_
      exact hB50 _ _ h _ _ _ hP (lv_sub hl [1] rfl)
    · rw [if_pos c7] at h
      refine lv_iconst (v := 2) hx hb dX5_run_45 (by decide) ?_
      refine lv_goto (tgt := 50) hx hb dX5_run_46 (by decide) ?_
      exact hB50 _ _ h _ _ _ hP (lv_sub hl [1] rfl)
  have hB24 : ∀ (w : Wo), B_X5_run_24 w = some (Sum.inr r) → ∀ (H : Heap) (locs : List Loc) (ls : Array Slot), St P s w H locs → lv_has ls 2 [(0, .ref (P.2.1 0))] → W p l e (rmU 7 0 0) s m args below meth c H locs 0 0 (QI P (some .int) r.1 r.2 below args s) (F0 m 24 ls []) := by
    intro w h H locs ls hP hl
    unfold B_X5_run_24 at h
    refine lv_aload_n hx hb dX5_run_24 rfl (lv_at hl 0 rfl) ?_
    refine vt_getI S hF hP (k := 9) (ci := 5) 0 (hlt _ (by decide)) rfl (by decide) rfl (by decide) rfl (inC_X5 _) (List.mem_cons_of_mem _ fl_X5_58) dX5_run_25 ?_
    refine lv_if_ge (tgt := 38) hx hb dX5_run_28 (by decide) (fun c8 => ?_) (fun c8 => ?_)
    · rw [if_pos c8] at h
      refine lv_iconst (v := 2) hx hb dX5_run_38 (by decide) ?_
      exact hB39 _ _ h _ _ _ hP (lv_sub hl [0] rfl)
    · rw [if_neg c8] at h
      refine lv_aload_n hx hb dX5_run_31 rfl (lv_at hl 0 rfl) ?_
      obtain ⟨q5, hq5, h⟩ := ob h
      refine vu_i hP (vu_V S hF hP (h := 0) (hlt _ (by decide)) rfl (by decide) rfl (c_X5_carryOutAll l P hA hn w hq5) ok_X5_carryOutAll ml_X5_268 ⟨Nat.le_of_ble_eq_true rfl, Nat.le_of_ble_eq_true rfl⟩ rfl hl.1 rfl (Nat.le_of_ble_eq_true rfl) dX5_run_32 ⟨Nat.le_of_ble_eq_true rfl, Nat.le_of_ble_eq_true rfl⟩) (fun H locs ho6 hP => ?_)
      refine lv_goto (tgt := 39) hx hb dX5_run_35 (by decide) ?_
      exact hB39 _ _ h _ _ _ hP (lv_sub hl [0] rfl)
  have hB19 : ∀ (w : Wo), B_X5_run_19 w = some (Sum.inr r) → ∀ (H : Heap) (locs : List Loc) (ls : Array Slot), St P s w H locs → lv_has ls 2 [(0, .ref (P.2.1 0))] → W p l e (rmU 7 0 0) s m args below meth c H locs 0 0 (QI P (some .int) r.1 r.2 below args s) (F0 m 19 ls []) := by
    intro w h H locs ls hP hl
    unfold B_X5_run_19 at h
    refine lv_aload_n hx hb dX5_run_19 rfl (lv_at hl 0 rfl) ?_
    refine lv_iconst (v := 0) hx hb dX5_run_20 (by decide) ?_
    refine vt_putI S hF hP (k := 8) (ci := 5) 0 (hlt _ (by decide)) rfl (by decide) rfl (by decide) rfl tyX5 tyX5_ok nmX5 rfl rfl rfl rfl (by decide) (inC_X5 _) (List.mem_cons_of_mem _ fl_X5_54) dX5_run_21 (fun H locs hP => ?_)
    exact hB24 _ h _ _ _ hP (lv_sub hl [0] rfl)
  unfold F_X5_run at h
  refine lv_aload_n hx hb dX5_run_0 rfl (lv_at hl 0 rfl) ?_
  refine lv_aload_n hx hb dX5_run_1 rfl (lv_at hl 0 rfl) ?_
  refine vt_getR (r := 21) S hF hP (k := 6) (ci := 5) 0 (hlt _ (by decide)) rfl (by decide) rfl (by decide) rfl rfl (inC_X5 _) (List.mem_cons_of_mem _ fl_X5_46) dX5_run_2 ?_
  refine lv_aload_n hx hb dX5_run_5 rfl (lv_at hl 0 rfl) ?_
  refine vt_getR (r := 25) S hF hP (k := 7) (ci := 5) 0 (hlt _ (by decide)) rfl (by decide) rfl (by decide) rfl rfl (inC_X5 _) (List.mem_cons_of_mem _ fl_X5_50) dX5_run_6 ?_
  refine lv_aload_n hx hb dX5_run_9 rfl (lv_at hl 0 rfl) ?_
  refine vt_getI S hF hP (k := 8) (ci := 5) 0 (hlt _ (by decide)) rfl (by decide) rfl (by decide) rfl (inC_X5 _) (List.mem_cons_of_mem _ fl_X5_54) dX5_run_10 ?_
  obtain ⟨q1, hq1, h⟩ := ob h
  refine vu_i hP (vu_V S hF hP (h := 21) (hlt _ (by decide)) rfl (by decide) rfl (c_X4_read l P hA hn w (gI w 0 8) hq1) ok_X4_read ml_X5_264 ⟨Nat.le_of_ble_eq_true rfl, Nat.le_of_ble_eq_true rfl⟩ rfl hl.1 rfl (Nat.le_of_ble_eq_true rfl) dX5_run_13 ⟨Nat.le_of_ble_eq_true rfl, Nat.le_of_ble_eq_true rfl⟩) (fun H locs ho2 hP => ?_)
  refine vt_putI S hF hP (k := 9) (ci := 5) 0 (hlt _ (by decide)) rfl (by decide) rfl (by decide) rfl tyX5 tyX5_ok nmX5 rfl rfl rfl rfl (by decide) (inC_X5 _) (List.mem_cons_of_mem _ fl_X5_58) dX5_run_16 (fun H locs hP => ?_)
  exact hB19 _ h _ _ _ hP (lv_sub hl [0] rfl)
set_option maxRecDepth 100000 in
set_option maxHeartbeats 4000000 in
theorem n_X5_refusal (l : Launch) (P : Pl) (hA : Adr P) (hn : 26 ≤ P.2.2.2.1) (w : Wo) (x1 : Int32) {r : (Int32 × Wo)} (h : F_X5_refusal w x1 = some (Sum.inr r)) : CtI l P yX5_refusal cX5_refusal 2 (some .int) 6 [.ref (P.2.1 0), .int x1] w r.1 r.2 := by
  have hlt : ∀ h, h < 26 → h < P.2.2.2.1 := fun h q => Nat.lt_of_lt_of_le q hn
  refine vs_met hA (by decide +kernel) (Nat.le_of_ble_eq_true rfl) (fun p e s m args below meth c ls S hF hP hl hr hk => ?_)
  have hx := S.1
  have hb := S.2.1
  replace hl : lv_has ls 2 [(0, .ref (P.2.1 0)), (1, .int x1)] := hl
  unfold F_X5_refusal at h
  refine lv_aload_n hx hb dX5_refusal_0 rfl (lv_at hl 0 rfl) ?_
  refine vt_getI S hF hP (k := 10) (ci := 5) 0 (hlt _ (by decide)) rfl (by decide) rfl (by decide) rfl (inC_X5 _) (List.mem_cons_of_mem _ fl_X5_61) dX5_refusal_1 ?_
  refine lv_if_ge (tgt := 18) hx hb dX5_refusal_4 (by decide) (fun c1 => ?_) (fun c1 => ?_)
  · rw [if_pos c1] at h
    refine lv_iload_n hx hb dX5_refusal_18 rfl (lv_at hl 1 rfl) ?_
    refine lv_if_eq (tgt := 29) hx hb dX5_refusal_19 (by decide) (fun c2 => ?_) (fun c2 => ?_)
    · rw [if_pos c2] at h
      refine lv_aload_n hx hb dX5_refusal_29 rfl (lv_at hl 0 rfl) ?_
      refine vt_getI S hF hP (k := 10) (ci := 5) 0 (hlt _ (by decide)) rfl (by decide) rfl (by decide) rfl (inC_X5 _) (List.mem_cons_of_mem _ fl_X5_61) dX5_refusal_30 ?_
      obtain rfl := Sum.inr.inj (Option.some.inj h)
      exact ve_i (v := (gI w 0 10)) S hF hP hr hk rfl dX5_refusal_33
    · rw [if_neg c2] at h
      refine lv_aload_n hx hb dX5_refusal_22 rfl (lv_at hl 0 rfl) ?_
      refine vt_getI S hF hP (k := 11) (ci := 5) 0 (hlt _ (by decide)) rfl (by decide) rfl (by decide) rfl (inC_X5 _) (List.mem_cons_of_mem _ fl_X5_64) dX5_refusal_23 ?_
      refine lv_goto (tgt := 33) hx hb dX5_refusal_26 (by decide) ?_
      obtain rfl := Sum.inr.inj (Option.some.inj h)
      exact ve_i (v := (gI w 0 11)) S hF hP hr hk rfl dX5_refusal_33
  · rw [if_neg c1] at h
    cases h
set_option maxRecDepth 100000 in
set_option maxHeartbeats 4000000 in
theorem n_X5_account (l : Launch) (P : Pl) (hA : Adr P) (hn : 26 ≤ P.2.2.2.1) (w : Wo) (x1 : Int32) {r : (Int32 × Wo)} (h : F_X5_account w x1 = some (Sum.inr r)) : CtI l P yX5_account cX5_account 2 (some .int) 6 [.ref (P.2.1 0), .int x1] w r.1 r.2 := by
  have hlt : ∀ h, h < 26 → h < P.2.2.2.1 := fun h q => Nat.lt_of_lt_of_le q hn
  refine vs_met hA (by decide +kernel) (Nat.le_of_ble_eq_true rfl) (fun p e s m args below meth c ls S hF hP hl hr hk => ?_)
  have hx := S.1
  have hb := S.2.1
  replace hl : lv_has ls 2 [(0, .ref (P.2.1 0)), (1, .int x1)] := hl
  unfold F_X5_account at h
  refine lv_iload_n hx hb dX5_account_0 rfl (lv_at hl 1 rfl) ?_
  by_cases c3 : x1 = 0
  · rw [if_pos c3] at h
    refine lv_tableIn (off := 55) (tgt := 56) hx hb dX5_account_1 (by rw [c3]; decide) (by rw [c3]; decide) (by rw [c3]; rfl) (by decide) ?_
    refine lv_aload_n hx hb dX5_account_56 rfl (lv_at hl 0 rfl) ?_
    refine vt_getR (r := 1) S hF hP (k := 0) (ci := 5) 0 (hlt _ (by decide)) rfl (by decide) rfl (by decide) rfl rfl (inC_X5 _) (List.mem_cons_of_mem _ fl_X5_12) dX5_account_57 ?_
    refine vu_i hP (vu_V S hF hP (h := 1) (hlt _ (by decide)) rfl (by decide) rfl (c_X0_places l P hA hn w) ok_X0_places ml_X5_79 ⟨Nat.le_of_ble_eq_true rfl, Nat.le_of_ble_eq_true rfl⟩ rfl hl.1 rfl (Nat.le_of_ble_eq_true rfl) dX5_account_60 ⟨Nat.le_of_ble_eq_true rfl, Nat.le_of_ble_eq_true rfl⟩) (fun H locs ho1 hP => ?_)
    obtain rfl := Sum.inr.inj (Option.some.inj h)
    exact ve_i (v := (F_X0_places w)) S hF hP hr hk rfl dX5_account_63
  rw [if_neg c3] at h
  by_cases c4 : x1 = 1
  · rw [if_pos c4] at h
    refine lv_tableIn (off := 63) (tgt := 64) hx hb dX5_account_1 (by rw [c4]; decide) (by rw [c4]; decide) (by rw [c4]; rfl) (by decide) ?_
    refine lv_aload_n hx hb dX5_account_64 rfl (lv_at hl 0 rfl) ?_
    refine vt_getR (r := 1) S hF hP (k := 0) (ci := 5) 0 (hlt _ (by decide)) rfl (by decide) rfl (by decide) rfl rfl (inC_X5 _) (List.mem_cons_of_mem _ fl_X5_12) dX5_account_65 ?_
    refine vu_i hP (vu_V S hF hP (h := 1) (hlt _ (by decide)) rfl (by decide) rfl (c_X0_barredLines l P hA hn w) ok_X0_barredLines ml_X5_162 ⟨Nat.le_of_ble_eq_true rfl, Nat.le_of_ble_eq_true rfl⟩ rfl hl.1 rfl (Nat.le_of_ble_eq_true rfl) dX5_account_68 ⟨Nat.le_of_ble_eq_true rfl, Nat.le_of_ble_eq_true rfl⟩) (fun H locs ho2 hP => ?_)
    obtain rfl := Sum.inr.inj (Option.some.inj h)
    exact ve_i (v := (F_X0_barredLines w)) S hF hP hr hk rfl dX5_account_71
  rw [if_neg c4] at h
  by_cases c5 : x1 = 2
  · rw [if_pos c5] at h
    refine lv_tableIn (off := 71) (tgt := 72) hx hb dX5_account_1 (by rw [c5]; decide) (by rw [c5]; decide) (by rw [c5]; rfl) (by decide) ?_
    refine lv_aload_n hx hb dX5_account_72 rfl (lv_at hl 0 rfl) ?_
    refine vt_getR (r := 1) S hF hP (k := 0) (ci := 5) 0 (hlt _ (by decide)) rfl (by decide) rfl (by decide) rfl rfl (inC_X5 _) (List.mem_cons_of_mem _ fl_X5_12) dX5_account_73 ?_
    refine vt_getI S hF hP (k := 5) (ci := 0) 1 (hlt _ (by decide)) rfl (by decide) rfl (by decide) rfl (inC_X0 _) (List.mem_cons_of_mem _ fl_X5_110) dX5_account_76 ?_
    obtain rfl := Sum.inr.inj (Option.some.inj h)
    exact ve_i (v := (gI w 1 5)) S hF hP hr hk rfl dX5_account_79
  rw [if_neg c5] at h
  by_cases c6 : x1 = 3
  · rw [if_pos c6] at h
    refine lv_tableIn (off := 79) (tgt := 80) hx hb dX5_account_1 (by rw [c6]; decide) (by rw [c6]; decide) (by rw [c6]; rfl) (by decide) ?_
    refine lv_aload_n hx hb dX5_account_80 rfl (lv_at hl 0 rfl) ?_
    refine vt_getR (r := 1) S hF hP (k := 0) (ci := 5) 0 (hlt _ (by decide)) rfl (by decide) rfl (by decide) rfl rfl (inC_X5 _) (List.mem_cons_of_mem _ fl_X5_12) dX5_account_81 ?_
    refine vt_getI S hF hP (k := 6) (ci := 0) 1 (hlt _ (by decide)) rfl (by decide) rfl (by decide) rfl (inC_X0 _) (List.mem_cons_of_mem _ fl_X5_275) dX5_account_84 ?_
    obtain rfl := Sum.inr.inj (Option.some.inj h)
    exact ve_i (v := (gI w 1 6)) S hF hP hr hk rfl dX5_account_87
  rw [if_neg c6] at h
  by_cases c7 : x1 = 4
  · rw [if_pos c7] at h
    refine lv_tableIn (off := 87) (tgt := 88) hx hb dX5_account_1 (by rw [c7]; decide) (by rw [c7]; decide) (by rw [c7]; rfl) (by decide) ?_
    refine lv_aload_n hx hb dX5_account_88 rfl (lv_at hl 0 rfl) ?_
    refine vt_getR (r := 1) S hF hP (k := 0) (ci := 5) 0 (hlt _ (by decide)) rfl (by decide) rfl (by decide) rfl rfl (inC_X5 _) (List.mem_cons_of_mem _ fl_X5_12) dX5_account_89 ?_
    refine vt_getI S hF hP (k := 7) (ci := 0) 1 (hlt _ (by decide)) rfl (by decide) rfl (by decide) rfl (inC_X0 _) (List.mem_cons_of_mem _ fl_X5_278) dX5_account_92 ?_
    obtain rfl := Sum.inr.inj (Option.some.inj h)
    exact ve_i (v := (gI w 1 7)) S hF hP hr hk rfl dX5_account_95
  rw [if_neg c7] at h
  by_cases c8 : x1 = 5
  · rw [if_pos c8] at h
    refine lv_tableIn (off := 95) (tgt := 96) hx hb dX5_account_1 (by rw [c8]; decide) (by rw [c8]; decide) (by rw [c8]; rfl) (by decide) ?_
    refine lv_aload_n hx hb dX5_account_96 rfl (lv_at hl 0 rfl) ?_
    refine vt_getR (r := 1) S hF hP (k := 0) (ci := 5) 0 (hlt _ (by decide)) rfl (by decide) rfl (by decide) rfl rfl (inC_X5 _) (List.mem_cons_of_mem _ fl_X5_12) dX5_account_97 ?_
    refine vt_getI S hF hP (k := 8) (ci := 0) 1 (hlt _ (by decide)) rfl (by decide) rfl (by decide) rfl (inC_X0 _) (List.mem_cons_of_mem _ fl_X5_137) dX5_account_100 ?_
    obtain rfl := Sum.inr.inj (Option.some.inj h)
    exact ve_i (v := (gI w 1 8)) S hF hP hr hk rfl dX5_account_103
  rw [if_neg c8] at h
  by_cases c9 : x1 = 6
  · rw [if_pos c9] at h
    refine lv_tableIn (off := 103) (tgt := 104) hx hb dX5_account_1 (by rw [c9]; decide) (by rw [c9]; decide) (by rw [c9]; rfl) (by decide) ?_
    refine lv_aload_n hx hb dX5_account_104 rfl (lv_at hl 0 rfl) ?_
    refine vt_getR (r := 1) S hF hP (k := 0) (ci := 5) 0 (hlt _ (by decide)) rfl (by decide) rfl (by decide) rfl rfl (inC_X5 _) (List.mem_cons_of_mem _ fl_X5_12) dX5_account_105 ?_
    refine vt_getI S hF hP (k := 9) (ci := 0) 1 (hlt _ (by decide)) rfl (by decide) rfl (by decide) rfl (inC_X0 _) (List.mem_cons_of_mem _ fl_X5_281) dX5_account_108 ?_
    obtain rfl := Sum.inr.inj (Option.some.inj h)
    exact ve_i (v := (gI w 1 9)) S hF hP hr hk rfl dX5_account_111
  rw [if_neg c9] at h
  by_cases c10 : x1 = 7
  · rw [if_pos c10] at h
    refine lv_tableIn (off := 111) (tgt := 112) hx hb dX5_account_1 (by rw [c10]; decide) (by rw [c10]; decide) (by rw [c10]; rfl) (by decide) ?_
    refine lv_aload_n hx hb dX5_account_112 rfl (lv_at hl 0 rfl) ?_
    refine vt_getR (r := 1) S hF hP (k := 0) (ci := 5) 0 (hlt _ (by decide)) rfl (by decide) rfl (by decide) rfl rfl (inC_X5 _) (List.mem_cons_of_mem _ fl_X5_12) dX5_account_113 ?_
    refine vt_getI S hF hP (k := 10) (ci := 0) 1 (hlt _ (by decide)) rfl (by decide) rfl (by decide) rfl (inC_X0 _) (List.mem_cons_of_mem _ fl_X5_284) dX5_account_116 ?_
    obtain rfl := Sum.inr.inj (Option.some.inj h)
    exact ve_i (v := (gI w 1 10)) S hF hP hr hk rfl dX5_account_119
  rw [if_neg c10] at h
  by_cases c11 : x1 = 8
  · rw [if_pos c11] at h
    refine lv_tableIn (off := 119) (tgt := 120) hx hb dX5_account_1 (by rw [c11]; decide) (by rw [c11]; decide) (by rw [c11]; rfl) (by decide) ?_
    refine lv_aload_n hx hb dX5_account_120 rfl (lv_at hl 0 rfl) ?_
    refine vt_getI S hF hP (k := 8) (ci := 5) 0 (hlt _ (by decide)) rfl (by decide) rfl (by decide) rfl (inC_X5 _) (List.mem_cons_of_mem _ fl_X5_54) dX5_account_121 ?_
    obtain rfl := Sum.inr.inj (Option.some.inj h)
    exact ve_i (v := (gI w 0 8)) S hF hP hr hk rfl dX5_account_124
  rw [if_neg c11] at h
  by_cases c12 : x1 = 9
  · rw [if_pos c12] at h
    refine lv_tableIn (off := 124) (tgt := 125) hx hb dX5_account_1 (by rw [c12]; decide) (by rw [c12]; decide) (by rw [c12]; rfl) (by decide) ?_
    refine lv_aload_n hx hb dX5_account_125 rfl (lv_at hl 0 rfl) ?_
    refine vt_getR (r := 4) S hF hP (k := 3) (ci := 5) 0 (hlt _ (by decide)) rfl (by decide) rfl (by decide) rfl rfl (inC_X5 _) (List.mem_cons_of_mem _ fl_X5_25) dX5_account_126 ?_
    refine vt_getI S hF hP (k := 2) (ci := 2) 4 (hlt _ (by decide)) rfl (by decide) rfl (by decide) rfl (inC_X2 _) (List.mem_cons_of_mem _ fl_X5_287) dX5_account_129 ?_
    obtain rfl := Sum.inr.inj (Option.some.inj h)
    exact ve_i (v := (gI w 4 2)) S hF hP hr hk rfl dX5_account_132
  rw [if_neg c12] at h
  refine lv_tableOut (tgt := 133) hx hb dX5_account_1 (sw_out (fun i i1 i2 => ?_)) (by decide) ?_
  · have i3 : i = 0 ∨ i = 1 ∨ i = 2 ∨ i = 3 ∨ i = 4 ∨ i = 5 ∨ i = 6 ∨ i = 7 ∨ i = 8 ∨ i = 9 := by omega
    rcases i3 with rfl | rfl | rfl | rfl | rfl | rfl | rfl | rfl | rfl | rfl
    · exact c3
    · exact c4
    · exact c5
    · exact c6
    · exact c7
    · exact c8
    · exact c9
    · exact c10
    · exact c11
    · exact c12
  cases h
set_option maxRecDepth 100000 in
set_option maxHeartbeats 4000000 in
theorem n_X5_meanFar (l : Launch) (P : Pl) (hA : Adr P) (hn : 26 ≤ P.2.2.2.1) (w : Wo) {r : (UInt64 × Wo)} (h : F_X5_meanFar w = some (Sum.inr r)) : CtD l P yX5_meanFar cX5_meanFar 5 (some .double) 6 [.ref (P.2.1 0)] w r.1 r.2 := by
  have hlt : ∀ h, h < 26 → h < P.2.2.2.1 := fun h q => Nat.lt_of_lt_of_le q hn
  refine vs_met hA (by decide +kernel) (Nat.le_of_ble_eq_true rfl) (fun p e s m args below meth c ls S hF hP hl hr hk => ?_)
  have hx := S.1
  have hb := S.2.1
  replace hl : lv_has ls 5 [(0, .ref (P.2.1 0))] := hl
  have hB86 : ∀ (w : Wo) (x1 : Int32) (x2 : Int32), B_X5_meanFar_86 w x1 x2 = some (Sum.inr r) → ∀ (H : Heap) (locs : List Loc) (ls : Array Slot), St P s w H locs → lv_has ls 5 [(1, .int x1), (2, .int x2)] → W p l e (rmU 6 0 0) s m args below meth c H locs 0 0 (QD P r.1 r.2 below args s) (F0 m 86 ls []) := by
    intro w x1 x2 h H locs ls hP hl
    unfold B_X5_meanFar_86 at h
    refine lv_iload_n hx hb dX5_meanFar_86 rfl (lv_at hl 0 rfl) ?_
    refine lv_if_ne (tgt := 101) hx hb dX5_meanFar_87 (by decide) (fun c9 => ?_) (fun c9 => ?_)
    · rw [if_neg c9] at h
      refine lv_iload_n hx hb dX5_meanFar_101 rfl (lv_at hl 1 rfl) ?_
      refine lv_i2d hx hb dX5_meanFar_102 ?_
      refine lv_iload_n hx hb dX5_meanFar_103 rfl (lv_at hl 0 rfl) ?_
      refine lv_i2d hx hb dX5_meanFar_104 ?_
      obtain ⟨c10, h⟩ := chk h
      refine lv_ddiv hx hb dX5_meanFar_105 c10 ?_
      obtain rfl := Sum.inr.inj (Option.some.inj h)
      exact ve_d S hF hP hr hk dX5_meanFar_106
    · rw [if_pos c9] at h
      cases h
  have hL6 : ∀ (w : Wo) (n : Nat) (x1 : Int32) (x2 : Int32) (x3 : Int32), jl3 (B_X5_meanFar_6 w) n x1 x2 x3 = some (Sum.inr r) → ∀ (H : Heap) (locs : List Loc) (ls : Array Slot), St P s w H locs → lv_has ls 5 [(0, .ref (P.2.1 0)), (1, .int x1), (2, .int x2), (3, .int x3)] → W p l e (rmU 6 0 0) s m args below meth c H locs 0 0 (QD P r.1 r.2 below args s) (F0 m 6 ls []) := by
    intro w
    intro n
    induction n with
    | zero =>
      intro x1 x2 x3 h
      cases h
    | succ n ih6 =>
      intro x1 x2 x3 h H locs ls hP hl
      replace h : B_X5_meanFar_6 w (jl3 (B_X5_meanFar_6 w) n) x1 x2 x3 = some (Sum.inr r) := h
      revert h ih6
      generalize jl3 (B_X5_meanFar_6 w) n = k6
      intro ih6 h
      have hB80 : ∀ (x1 : Int32) (x2 : Int32) (x3 : Int32), B_X5_meanFar_80 k6 w x1 x2 x3 = some (Sum.inr r) → ∀ (H : Heap) (locs : List Loc) (ls : Array Slot), St P s w H locs → lv_has ls 5 [(0, .ref (P.2.1 0)), (1, .int x1), (2, .int x2), (3, .int x3)] → W p l e (rmU 6 0 0) s m args below meth c H locs 0 0 (QD P r.1 r.2 below args s) (F0 m 80 ls []) := by
        intro x1 x2 x3 h H locs ls hP hl
        unfold B_X5_meanFar_80 at h
        refine lv_iinc (v := (x3 + 1)) (lv' := [(3, .int (x3 + 1)), (0, .ref (P.2.1 0)), (1, .int x1), (2, .int x2)]) hx hb dX5_meanFar_80 hl (k := 3) rfl rfl (by decide) rfl (fun ls hl => ?_)
        refine lv_goto (tgt := 6) hx hb dX5_meanFar_83 (by decide) ?_
        exact ih6 _ _ _ h _ _ _ hP (lv_sub hl [1, 2, 3, 0] rfl)
      unfold B_X5_meanFar_6 at h
      refine lv_iload_n hx hb dX5_meanFar_6 rfl (lv_at hl 3 rfl) ?_
      refine lv_aload_n hx hb dX5_meanFar_7 rfl (lv_at hl 0 rfl) ?_
      refine vt_getR (r := 1) S hF hP (k := 0) (ci := 5) 0 (hlt _ (by decide)) rfl (by decide) rfl (by decide) rfl rfl (inC_X5 _) (List.mem_cons_of_mem _ fl_X5_12) dX5_meanFar_8 ?_
      refine vu_i hP (vu_V S hF hP (h := 1) (hlt _ (by decide)) rfl (by decide) rfl (c_X0_places l P hA hn w) ok_X0_places ml_X5_79 ⟨Nat.le_of_ble_eq_true rfl, Nat.le_of_ble_eq_true rfl⟩ rfl hl.1 rfl (Nat.le_of_ble_eq_true rfl) dX5_meanFar_11 ⟨Nat.le_of_ble_eq_true rfl, Nat.le_of_ble_eq_true rfl⟩) (fun H locs ho1 hP => ?_)
      refine lv_icmp_ge (tgt := 86) hx hb dX5_meanFar_14 (by decide) (fun c11 => ?_) (fun c11 => ?_)
      · rw [if_pos c11] at h
        exact hB86 _ _ _ h _ _ _ hP (lv_sub hl [1, 2] rfl)
      · rw [if_neg c11] at h
        refine lv_aload_n hx hb dX5_meanFar_17 rfl (lv_at hl 0 rfl) ?_
        refine vt_getR (r := 1) S hF hP (k := 0) (ci := 5) 0 (hlt _ (by decide)) rfl (by decide) rfl (by decide) rfl rfl (inC_X5 _) (List.mem_cons_of_mem _ fl_X5_12) dX5_meanFar_18 ?_
        refine vt_getL S hF hP (k := 3) (ci := 0) 1 (hlt _ (by decide)) rfl (by decide) rfl (by decide) rfl (inC_X0 _) (List.mem_cons_of_mem _ fl_X5_99) dX5_meanFar_21 ?_
        refine lv_iload_n hx hb dX5_meanFar_24 rfl (lv_at hl 3 rfl) ?_
        refine vu_i hP (vu_S S hF hP (c_X5_codeAt l P hA hn w (gL w 1 3) x3) ok_X5_codeAt ml_X5_91 ⟨Nat.le_of_ble_eq_true rfl, Nat.le_of_ble_eq_true rfl⟩ rfl hl.1 rfl (Nat.le_of_ble_eq_true rfl) dX5_meanFar_25 ⟨Nat.le_of_ble_eq_true rfl, Nat.le_of_ble_eq_true rfl⟩) (fun H locs ho2 hP => ?_)
        refine lv_istore (lv' := [(4, .int (F_X5_codeAt (gL w 1 3) x3)), (0, .ref (P.2.1 0)), (1, .int x1), (2, .int x2), (3, .int x3)]) hx hb dX5_meanFar_28 hl (by decide) rfl (fun ls hl => ?_)
        refine lv_aload_n hx hb dX5_meanFar_30 rfl (lv_at hl 1 rfl) ?_
        refine vt_getR (r := 1) S hF hP (k := 0) (ci := 5) 0 (hlt _ (by decide)) rfl (by decide) rfl (by decide) rfl rfl (inC_X5 _) (List.mem_cons_of_mem _ fl_X5_12) dX5_meanFar_31 ?_
        refine lv_aload_n hx hb dX5_meanFar_34 rfl (lv_at hl 1 rfl) ?_
        refine vt_getR (r := 1) S hF hP (k := 0) (ci := 5) 0 (hlt _ (by decide)) rfl (by decide) rfl (by decide) rfl rfl (inC_X5 _) (List.mem_cons_of_mem _ fl_X5_12) dX5_meanFar_35 ?_
        refine vt_getL S hF hP (k := 2) (ci := 0) 1 (hlt _ (by decide)) rfl (by decide) rfl (by decide) rfl (inC_X0 _) (List.mem_cons_of_mem _ fl_X5_83) dX5_meanFar_38 ?_
        refine lv_iload hx hb dX5_meanFar_41 (lv_at hl 0 rfl) ?_
        obtain ⟨q3, hq3, h⟩ := ob h
        refine vu_i hP (vu_V S hF hP (h := 1) (hlt _ (by decide)) rfl (by decide) rfl (c_X0_count l P hA hn w (gL w 1 2) (F_X5_codeAt (gL w 1 3) x3) hq3) ok_X0_count ml_X5_171 ⟨Nat.le_of_ble_eq_true rfl, Nat.le_of_ble_eq_true rfl⟩ rfl hl.1 rfl (Nat.le_of_ble_eq_true rfl) dX5_meanFar_43 ⟨Nat.le_of_ble_eq_true rfl, Nat.le_of_ble_eq_true rfl⟩) (fun H locs ho4 hP => ?_)
        refine lv_iconst (v := 1) hx hb dX5_meanFar_46 (by decide) ?_
        refine lv_icmp_ne (tgt := 80) hx hb dX5_meanFar_47 (by decide) (fun c12 => ?_) (fun c12 => ?_)
        · rw [if_neg c12] at h
          exact hB80 _ _ _ h _ _ _ hP (lv_sub hl [1, 2, 3, 4] rfl)
        · rw [if_pos c12] at h
          refine lv_iinc (v := (x1 + 1)) (lv' := [(1, .int (x1 + 1)), (4, .int (F_X5_codeAt (gL w 1 3) x3)), (0, .ref (P.2.1 0)), (2, .int x2), (3, .int x3)]) hx hb dX5_meanFar_50 hl (k := 2) rfl rfl (by decide) rfl (fun ls hl => ?_)
          refine lv_iload_n hx hb dX5_meanFar_53 rfl (lv_at hl 3 rfl) ?_
          refine lv_aload_n hx hb dX5_meanFar_54 rfl (lv_at hl 2 rfl) ?_
          refine vt_getR (r := 1) S hF hP (k := 0) (ci := 5) 0 (hlt _ (by decide)) rfl (by decide) rfl (by decide) rfl rfl (inC_X5 _) (List.mem_cons_of_mem _ fl_X5_12) dX5_meanFar_55 ?_
          refine lv_iload_n hx hb dX5_meanFar_58 rfl (lv_at hl 4 rfl) ?_
          refine lv_aload_n hx hb dX5_meanFar_59 rfl (lv_at hl 2 rfl) ?_
          refine vt_getR (r := 1) S hF hP (k := 0) (ci := 5) 0 (hlt _ (by decide)) rfl (by decide) rfl (by decide) rfl rfl (inC_X5 _) (List.mem_cons_of_mem _ fl_X5_12) dX5_meanFar_60 ?_
          refine lv_aload_n hx hb dX5_meanFar_63 rfl (lv_at hl 2 rfl) ?_
          refine vt_getR (r := 1) S hF hP (k := 0) (ci := 5) 0 (hlt _ (by decide)) rfl (by decide) rfl (by decide) rfl rfl (inC_X5 _) (List.mem_cons_of_mem _ fl_X5_12) dX5_meanFar_64 ?_
          refine vt_getL S hF hP (k := 2) (ci := 0) 1 (hlt _ (by decide)) rfl (by decide) rfl (by decide) rfl (inC_X0 _) (List.mem_cons_of_mem _ fl_X5_83) dX5_meanFar_67 ?_
          refine lv_iload hx hb dX5_meanFar_70 (lv_at hl 1 rfl) ?_
          obtain ⟨q5, hq5, h⟩ := ob h
          refine vu_i hP (vu_V S hF hP (h := 1) (hlt _ (by decide)) rfl (by decide) rfl (c_X0_placeOf l P hA hn w (gL w 1 2) (F_X5_codeAt (gL w 1 3) x3) hq5) ok_X0_placeOf ml_X5_293 ⟨Nat.le_of_ble_eq_true rfl, Nat.le_of_ble_eq_true rfl⟩ rfl hl.1 rfl (Nat.le_of_ble_eq_true rfl) dX5_meanFar_72 ⟨Nat.le_of_ble_eq_true rfl, Nat.le_of_ble_eq_true rfl⟩) (fun H locs ho6 hP => ?_)
          obtain ⟨q7, hq7, h⟩ := ob h
          refine vu_i hP (vu_V S hF hP (h := 1) (hlt _ (by decide)) rfl (by decide) rfl (c_X0_distance l P hA hn w x3 q5 hq7) ok_X0_distance ml_X5_221 ⟨Nat.le_of_ble_eq_true rfl, Nat.le_of_ble_eq_true rfl⟩ rfl hl.1 rfl (Nat.le_of_ble_eq_true rfl) dX5_meanFar_75 ⟨Nat.le_of_ble_eq_true rfl, Nat.le_of_ble_eq_true rfl⟩) (fun H locs ho8 hP => ?_)
          refine lv_iadd hx hb dX5_meanFar_78 ?_
          refine lv_istore_n (lv' := [(2, .int (x2 + q7)), (1, .int (x1 + 1)), (4, .int (F_X5_codeAt (gL w 1 3) x3)), (0, .ref (P.2.1 0)), (3, .int x3)]) hx hb dX5_meanFar_79 rfl hl (by decide) rfl (fun ls hl => ?_)
          exact hB80 _ _ _ h _ _ _ hP (lv_sub hl [3, 1, 0, 4] rfl)
  unfold F_X5_meanFar at h
  refine lv_iconst (v := 0) hx hb dX5_meanFar_0 (by decide) ?_
  refine lv_istore_n (lv' := [(1, .int 0), (0, .ref (P.2.1 0))]) hx hb dX5_meanFar_1 rfl hl (by decide) rfl (fun ls hl => ?_)
  refine lv_iconst (v := 0) hx hb dX5_meanFar_2 (by decide) ?_
  refine lv_istore_n (lv' := [(2, .int 0), (1, .int 0), (0, .ref (P.2.1 0))]) hx hb dX5_meanFar_3 rfl hl (by decide) rfl (fun ls hl => ?_)
  refine lv_iconst (v := 0) hx hb dX5_meanFar_4 (by decide) ?_
  refine lv_istore_n (lv' := [(3, .int 0), (2, .int 0), (1, .int 0), (0, .ref (P.2.1 0))]) hx hb dX5_meanFar_5 rfl hl (by decide) rfl (fun ls hl => ?_)
  exact hL6 _ fu _ _ _ h _ _ _ hP (lv_sub hl [3, 2, 1, 0] rfl)
set_option maxRecDepth 100000 in
set_option maxHeartbeats 4000000 in
theorem n_X5_undo (l : Launch) (P : Pl) (hA : Adr P) (hn : 26 ≤ P.2.2.2.1) (w : Wo) {r : (Int32 × Wo)} (h : F_X5_undo w = some (Sum.inr r)) : CtI l P yX5_undo cX5_undo 1 (some .int) 6 [.ref (P.2.1 0)] w r.1 r.2 := by
  have hlt : ∀ h, h < 26 → h < P.2.2.2.1 := fun h q => Nat.lt_of_lt_of_le q hn
  refine vs_met hA (by decide +kernel) (Nat.le_of_ble_eq_true rfl) (fun p e s m args below meth c ls S hF hP hl hr hk => ?_)
  have hx := S.1
  have hb := S.2.1
  replace hl : lv_has ls 1 [(0, .ref (P.2.1 0))] := hl
  unfold F_X5_undo at h
  refine lv_aload_n hx hb dX5_undo_0 rfl (lv_at hl 0 rfl) ?_
  refine vt_getR (r := 4) S hF hP (k := 3) (ci := 5) 0 (hlt _ (by decide)) rfl (by decide) rfl (by decide) rfl rfl (inC_X5 _) (List.mem_cons_of_mem _ fl_X5_25) dX5_undo_1 ?_
  refine vt_getI S hF hP (k := 2) (ci := 2) 4 (hlt _ (by decide)) rfl (by decide) rfl (by decide) rfl (inC_X2 _) (List.mem_cons_of_mem _ fl_X5_287) dX5_undo_4 ?_
  refine lv_if_gt (tgt := 21) hx hb dX5_undo_7 (by decide) (fun c2 => ?_) (fun c2 => ?_)
  · rw [if_pos c2] at h
    refine lv_aload_n hx hb dX5_undo_21 rfl (lv_at hl 0 rfl) ?_
    refine vt_getR (r := 4) S hF hP (k := 3) (ci := 5) 0 (hlt _ (by decide)) rfl (by decide) rfl (by decide) rfl rfl (inC_X5 _) (List.mem_cons_of_mem _ fl_X5_25) dX5_undo_22 ?_
    refine lv_aload_n hx hb dX5_undo_25 rfl (lv_at hl 0 rfl) ?_
    refine vt_getR (r := 1) S hF hP (k := 0) (ci := 5) 0 (hlt _ (by decide)) rfl (by decide) rfl (by decide) rfl rfl (inC_X5 _) (List.mem_cons_of_mem _ fl_X5_12) dX5_undo_26 ?_
    obtain ⟨q1, hq1, h⟩ := ob h
    refine vu_v hP (vu_V S hF hP (h := 4) (hlt _ (by decide)) rfl (by decide) rfl (c_X2_takeBack l P hA hn w hq1) ok_X2_takeBack ml_X5_303 ⟨Nat.le_of_ble_eq_true rfl, Nat.le_of_ble_eq_true rfl⟩ rfl hl.1 rfl (Nat.le_of_ble_eq_true rfl) dX5_undo_29 ⟨Nat.le_of_ble_eq_true rfl, Nat.le_of_ble_eq_true rfl⟩) (fun H locs hP => ?_)
    refine lv_aload_n hx hb dX5_undo_32 rfl (lv_at hl 0 rfl) ?_
    refine vt_getR (r := 4) S hF hP (k := 3) (ci := 5) 0 (hlt _ (by decide)) rfl (by decide) rfl (by decide) rfl rfl (inC_X5 _) (List.mem_cons_of_mem _ fl_X5_25) dX5_undo_33 ?_
    refine vt_getI S hF hP (k := 2) (ci := 2) 4 (hlt _ (by decide)) rfl (by decide) rfl (by decide) rfl (inC_X2 _) (List.mem_cons_of_mem _ fl_X5_287) dX5_undo_36 ?_
    obtain rfl := Sum.inr.inj (Option.some.inj h)
    exact ve_i (v := (gI q1 4 2)) S hF hP hr hk rfl dX5_undo_39
  · rw [if_neg c2] at h
    cases h
set_option maxRecDepth 100000 in
set_option maxHeartbeats 4000000 in
theorem n_X5_restore (l : Launch) (P : Pl) (hA : Adr P) (hn : 26 ≤ P.2.2.2.1) (w : Wo) {r : (Int32 × Wo)} (h : F_X5_restore w = some (Sum.inr r)) : CtI l P yX5_restore cX5_restore 1 (some .int) 6 [.ref (P.2.1 0)] w r.1 r.2 := by
  have hlt : ∀ h, h < 26 → h < P.2.2.2.1 := fun h q => Nat.lt_of_lt_of_le q hn
  refine vs_met hA (by decide +kernel) (Nat.le_of_ble_eq_true rfl) (fun p e s m args below meth c ls S hF hP hl hr hk => ?_)
  have hx := S.1
  have hb := S.2.1
  replace hl : lv_has ls 1 [(0, .ref (P.2.1 0))] := hl
  unfold F_X5_restore at h
  refine lv_aload_n hx hb dX5_restore_0 rfl (lv_at hl 0 rfl) ?_
  refine vt_getI S hF hP (k := 12) (ci := 5) 0 (hlt _ (by decide)) rfl (by decide) rfl (by decide) rfl (inC_X5 _) (List.mem_cons_of_mem _ fl_X5_67) dX5_restore_1 ?_
  refine lv_if_ne (tgt := 18) hx hb dX5_restore_4 (by decide) (fun c5 => ?_) (fun c5 => ?_)
  · rw [if_neg c5] at h
    refine lv_aload_n hx hb dX5_restore_18 rfl (lv_at hl 0 rfl) ?_
    refine vt_getR (r := 1) S hF hP (k := 0) (ci := 5) 0 (hlt _ (by decide)) rfl (by decide) rfl (by decide) rfl rfl (inC_X5 _) (List.mem_cons_of_mem _ fl_X5_12) dX5_restore_19 ?_
    refine lv_aload_n hx hb dX5_restore_22 rfl (lv_at hl 0 rfl) ?_
    refine vt_getR (r := 3) S hF hP (k := 2) (ci := 5) 0 (hlt _ (by decide)) rfl (by decide) rfl (by decide) rfl rfl (inC_X5 _) (List.mem_cons_of_mem _ fl_X5_19) dX5_restore_23 ?_
    obtain ⟨q1, hq1, h⟩ := ob h
    refine vu_v hP (vu_V S hF hP (h := 1) (hlt _ (by decide)) rfl (by decide) rfl (c_X0_copy l P hA hn 1 3 rfl (by decide) rfl (by decide) w hq1) ok_X0_copy ml_X5_306 ⟨Nat.le_of_ble_eq_true rfl, Nat.le_of_ble_eq_true rfl⟩ rfl hl.1 rfl (Nat.le_of_ble_eq_true rfl) dX5_restore_26 ⟨Nat.le_of_ble_eq_true rfl, Nat.le_of_ble_eq_true rfl⟩) (fun H locs hP => ?_)
    refine lv_aload_n hx hb dX5_restore_29 rfl (lv_at hl 0 rfl) ?_
    refine vt_getR (r := 4) S hF hP (k := 3) (ci := 5) 0 (hlt _ (by decide)) rfl (by decide) rfl (by decide) rfl rfl (inC_X5 _) (List.mem_cons_of_mem _ fl_X5_25) dX5_restore_30 ?_
    obtain ⟨q2, hq2, h⟩ := ob h
    refine vu_v hP (vu_V S hF hP (h := 4) (hlt _ (by decide)) rfl (by decide) rfl (c_X2_forget l P hA hn q1 hq2) ok_X2_forget ml_X5_311 ⟨Nat.le_of_ble_eq_true rfl, Nat.le_of_ble_eq_true rfl⟩ rfl hl.1 rfl (Nat.le_of_ble_eq_true rfl) dX5_restore_33 ⟨Nat.le_of_ble_eq_true rfl, Nat.le_of_ble_eq_true rfl⟩) (fun H locs hP => ?_)
    refine lv_aload_n hx hb dX5_restore_36 rfl (lv_at hl 0 rfl) ?_
    refine vt_getR (r := 1) S hF hP (k := 0) (ci := 5) 0 (hlt _ (by decide)) rfl (by decide) rfl (by decide) rfl rfl (inC_X5 _) (List.mem_cons_of_mem _ fl_X5_12) dX5_restore_37 ?_
    refine lv_aload_n hx hb dX5_restore_40 rfl (lv_at hl 0 rfl) ?_
    refine vt_getR (r := 1) S hF hP (k := 0) (ci := 5) 0 (hlt _ (by decide)) rfl (by decide) rfl (by decide) rfl rfl (inC_X5 _) (List.mem_cons_of_mem _ fl_X5_12) dX5_restore_41 ?_
    refine vt_getL S hF hP (k := 2) (ci := 0) 1 (hlt _ (by decide)) rfl (by decide) rfl (by decide) rfl (inC_X0 _) (List.mem_cons_of_mem _ fl_X5_83) dX5_restore_44 ?_
    obtain ⟨q3, hq3, h⟩ := ob h
    refine vu_i hP (vu_V S hF hP (h := 1) (hlt _ (by decide)) rfl (by decide) rfl (c_X0_atHome l P hA hn q2 (gL q2 1 2) hq3) ok_X0_atHome ml_X5_102 ⟨Nat.le_of_ble_eq_true rfl, Nat.le_of_ble_eq_true rfl⟩ rfl hl.1 rfl (Nat.le_of_ble_eq_true rfl) dX5_restore_47 ⟨Nat.le_of_ble_eq_true rfl, Nat.le_of_ble_eq_true rfl⟩) (fun H locs ho4 hP => ?_)
    obtain rfl := Sum.inr.inj (Option.some.inj h)
    exact ve_i (v := q3) S hF hP hr hk rfl dX5_restore_50
  · rw [if_pos c5] at h
    cases h
