set_option maxRecDepth 100000 in
set_option maxHeartbeats 4000000 in
theorem c_X0_lineLength (l : Launch) (P : Pl) (hA : Adr P) (hn : 26 ≤ P.2.2.2.1) (w : Wo) (x1 : Int32) : CtI l P yX0_lineLength cX0_lineLength 2 (some .int) 0 [.ref (P.2.1 1), .int x1] w (F_X0_lineLength w x1) w := by
  have hlt : ∀ h, h < 26 → h < P.2.2.2.1 := fun h q => Nat.lt_of_lt_of_le q hn
  obtain ⟨r, h⟩ : ∃ r, F_X0_lineLength w x1 = r := ⟨_, rfl⟩
  rw [h]
  refine vs_met hA (by decide +kernel) (Nat.le_of_ble_eq_true rfl) (fun p e s m args below meth c ls S hF hP hl hr hk => ?_)
  have hx := S.1
  have hb := S.2.1
  replace hl : lv_has ls 2 [(0, .ref (P.2.1 1)), (1, .int x1)] := hl
  unfold F_X0_lineLength at h
  refine lv_iload_n hx hb dX0_lineLength_0 rfl (lv_at hl 1 rfl) ?_
  refine lv_aload_n hx hb dX0_lineLength_1 rfl (lv_at hl 0 rfl) ?_
  refine vt_getI S hF hP (k := 0) (ci := 0) 1 (hlt _ (by decide)) rfl (by decide) rfl (by decide) rfl (inC_X0 _) (List.mem_cons_of_mem _ fl_X0_9) dX0_lineLength_2 ?_
  refine lv_icmp_ge (tgt := 15) hx hb dX0_lineLength_5 (by decide) (fun c1 => ?_) (fun c1 => ?_)
  · rw [if_pos c1] at h
    refine lv_aload_n hx hb dX0_lineLength_15 rfl (lv_at hl 0 rfl) ?_
    refine vt_getI S hF hP (k := 0) (ci := 0) 1 (hlt _ (by decide)) rfl (by decide) rfl (by decide) rfl (inC_X0 _) (List.mem_cons_of_mem _ fl_X0_9) dX0_lineLength_16 ?_
    subst h
    exact ve_i (v := (gI w 1 0)) S hF hP hr hk rfl dX0_lineLength_19
  · rw [if_neg c1] at h
    refine lv_aload_n hx hb dX0_lineLength_8 rfl (lv_at hl 0 rfl) ?_
    refine vt_getI S hF hP (k := 1) (ci := 0) 1 (hlt _ (by decide)) rfl (by decide) rfl (by decide) rfl (inC_X0 _) (List.mem_cons_of_mem _ fl_X0_15) dX0_lineLength_9 ?_
    refine lv_goto (tgt := 19) hx hb dX0_lineLength_12 (by decide) ?_
    subst h
    exact ve_i (v := (gI w 1 1)) S hF hP hr hk rfl dX0_lineLength_19
set_option maxRecDepth 100000 in
set_option maxHeartbeats 4000000 in
theorem c_X0_turned (l : Launch) (P : Pl) (hA : Adr P) (hn : 26 ≤ P.2.2.2.1) (w : Wo) (x1 : Int64) (x3 : Int32) {r : Int64} (h : F_X0_turned w x1 x3 = some r) : CtL l P yX0_turned cX0_turned 14 (some .long) 1 [.ref (P.2.1 1), .long x1, .int x3] w r w := by
  have hlt : ∀ h, h < 26 → h < P.2.2.2.1 := fun h q => Nat.lt_of_lt_of_le q hn
  refine vs_met hA (by decide +kernel) (Nat.le_of_ble_eq_true rfl) (fun p e s m args below meth c ls S hF hP hl hr hk => ?_)
  have hx := S.1
  have hb := S.2.1
  replace hl : lv_has ls 14 [(0, .ref (P.2.1 1)), (1, .long x1), (3, .int x3)] := hl
  have hB97 : ∀ (x1 : Int64) (x5 : Int32) (x8 : Int64) (t0 : Int64), B_X0_turned_97 w x1 x5 x8 t0 = some r → ∀ (H : Heap) (locs : List Loc) (ls : Array Slot), St P s w H locs → lv_has ls 14 [(1, .long x1), (5, .int x5), (8, .long x8)] → W p l e (rmU 1 0 0) s m args below meth c H locs 0 0 (QL P r w below args s) (F0 m 97 ls [.long t0]) := by
    intro x1 x5 x8 t0 h H locs ls hP hl
    unfold B_X0_turned_97 at h
    refine lv_lstore (lv' := [(12, .long t0), (1, .long x1), (5, .int x5), (8, .long x8)]) hx hb dX0_turned_97 hl (by decide) rfl (fun ls hl => ?_)
    refine lv_lload_n hx hb dX0_turned_99 rfl (lv_at hl 1 rfl) ?_
    refine lv_lload hx hb dX0_turned_100 (lv_at hl 3 rfl) ?_
    refine lv_iload hx hb dX0_turned_102 (lv_at hl 2 rfl) ?_
    refine lv_lshl hx hb dX0_turned_104 rfl ?_
    refine lv_ldc2 (v := (-1)) hx hb S.2.2.2.1 (S.2.2.2.2 _ (List.mem_cons_of_mem _ cl_X0_84)) dX0_turned_105 ?_
    refine lv_lxor hx hb dX0_turned_108 ?_
    refine lv_land hx hb dX0_turned_109 ?_
    refine lv_lload hx hb dX0_turned_110 (lv_at hl 0 rfl) ?_
    refine lv_lload hx hb dX0_turned_112 (lv_at hl 3 rfl) ?_
    refine lv_land hx hb dX0_turned_114 ?_
    refine lv_iload hx hb dX0_turned_115 (lv_at hl 2 rfl) ?_
    refine lv_lshl hx hb dX0_turned_117 rfl ?_
    refine lv_lor hx hb dX0_turned_118 ?_
    obtain rfl := Option.some.inj h
    exact ve_l S hF hP hr hk dX0_turned_119
  have hB57 : ∀ (x1 : Int64) (x3 : Int32) (x5 : Int32) (x6 : Int32) (x7 : Int32) (x8 : Int64), B_X0_turned_57 w x1 x3 x5 x6 x7 x8 = some r → ∀ (H : Heap) (locs : List Loc) (ls : Array Slot), St P s w H locs → lv_has ls 14 [(1, .long x1), (3, .int x3), (5, .int x5), (6, .int x6), (7, .int x7), (8, .long x8)] → W p l e (rmU 1 0 0) s m args below meth c H locs 0 0 (QL P r w below args s) (F0 m 57 ls []) := by
    intro x1 x3 x5 x6 x7 x8 h H locs ls hP hl
    unfold B_X0_turned_57 at h
    refine lv_lload_n hx hb dX0_turned_57 rfl (lv_at hl 0 rfl) ?_
    refine lv_iload hx hb dX0_turned_58 (lv_at hl 2 rfl) ?_
    refine lv_lushr hx hb dX0_turned_60 rfl ?_
    refine lv_lload hx hb dX0_turned_61 (lv_at hl 5 rfl) ?_
    refine lv_land hx hb dX0_turned_63 ?_
    refine lv_lstore (lv' := [(10, .long ((jlushr x1 x5) &&& x8)), (1, .long x1), (3, .int x3), (5, .int x5), (6, .int x6), (7, .int x7), (8, .long x8)]) hx hb dX0_turned_64 hl (by decide) rfl (fun ls hl => ?_)
    refine lv_iload_n hx hb dX0_turned_66 rfl (lv_at hl 2 rfl) ?_
    refine lv_iconst (v := 2) hx hb dX0_turned_67 (by decide) ?_
    refine lv_irem hx hb dX0_turned_68 (by decide) ?_
    refine lv_if_ne (tgt := 86) hx hb dX0_turned_69 (by decide) (fun c4 => ?_) (fun c4 => ?_)
    · rw [if_neg c4] at h
      refine lv_lload hx hb dX0_turned_86 (lv_at hl 0 rfl) ?_
      refine lv_iload hx hb dX0_turned_88 (lv_at hl 4 rfl) ?_
      refine lv_lushr hx hb dX0_turned_90 rfl ?_
      refine lv_lload hx hb dX0_turned_91 (lv_at hl 0 rfl) ?_
      refine lv_iload hx hb dX0_turned_93 (lv_at hl 5 rfl) ?_
      refine lv_lshl hx hb dX0_turned_95 rfl ?_
      refine lv_lor hx hb dX0_turned_96 ?_
      exact hB97 _ _ _ _ h _ _ _ hP (lv_sub hl [1, 3, 6] rfl)
    · rw [if_pos c4] at h
      refine lv_lload hx hb dX0_turned_72 (lv_at hl 0 rfl) ?_
      refine lv_iload hx hb dX0_turned_74 (lv_at hl 4 rfl) ?_
      refine lv_lshl hx hb dX0_turned_76 rfl ?_
      refine lv_lload hx hb dX0_turned_77 (lv_at hl 0 rfl) ?_
      refine lv_iload hx hb dX0_turned_79 (lv_at hl 5 rfl) ?_
      refine lv_lushr hx hb dX0_turned_81 rfl ?_
      refine lv_lor hx hb dX0_turned_82 ?_
      refine lv_goto (tgt := 97) hx hb dX0_turned_83 (by decide) ?_
      exact hB97 _ _ _ _ h _ _ _ hP (lv_sub hl [1, 3, 6] rfl)
  have hB38 : ∀ (x1 : Int64) (x3 : Int32) (x5 : Int32) (x6 : Int32) (x7 : Int32), B_X0_turned_38 w x1 x3 x5 x6 x7 = some r → ∀ (H : Heap) (locs : List Loc) (ls : Array Slot), St P s w H locs → lv_has ls 14 [(1, .long x1), (3, .int x3), (5, .int x5), (6, .int x6), (7, .int x7)] → W p l e (rmU 1 0 0) s m args below meth c H locs 0 0 (QL P r w below args s) (F0 m 38 ls []) := by
    intro x1 x3 x5 x6 x7 h H locs ls hP hl
    unfold B_X0_turned_38 at h
    refine lv_ldc2 (v := 15) hx hb S.2.2.2.1 (S.2.2.2.2 _ (List.mem_cons_of_mem _ cl_X0_82)) dX0_turned_38 ?_
    refine lv_ldc2 (v := 15) hx hb S.2.2.2.1 (S.2.2.2.2 _ (List.mem_cons_of_mem _ cl_X0_82)) dX0_turned_41 ?_
    refine lv_iload hx hb dX0_turned_44 (lv_at hl 3 rfl) ?_
    refine lv_lshl hx hb dX0_turned_46 rfl ?_
    refine lv_lor hx hb dX0_turned_47 ?_
    refine lv_ldc2 (v := 15) hx hb S.2.2.2.1 (S.2.2.2.2 _ (List.mem_cons_of_mem _ cl_X0_82)) dX0_turned_48 ?_
    refine lv_iload hx hb dX0_turned_51 (lv_at hl 4 rfl) ?_
    refine lv_lshl hx hb dX0_turned_53 rfl ?_
    refine lv_lor hx hb dX0_turned_54 ?_
    refine lv_lstore (lv' := [(8, .long (((15 : Int64) ||| (jlshl (15 : Int64) x6)) ||| (jlshl (15 : Int64) x7))), (1, .long x1), (3, .int x3), (5, .int x5), (6, .int x6), (7, .int x7)]) hx hb dX0_turned_55 hl (by decide) rfl (fun ls hl => ?_)
    exact hB57 _ _ _ _ _ _ h _ _ _ hP (lv_sub hl [1, 2, 3, 4, 5, 0] rfl)
  have hB25 : ∀ (x1 : Int64) (x3 : Int32) (x4 : Int32) (x5 : Int32) (x6 : Int32), B_X0_turned_25 w x1 x3 x4 x5 x6 = some r → ∀ (H : Heap) (locs : List Loc) (ls : Array Slot), St P s w H locs → lv_has ls 14 [(0, .ref (P.2.1 1)), (1, .long x1), (3, .int x3), (4, .int x4), (5, .int x5), (6, .int x6)] → W p l e (rmU 1 0 0) s m args below meth c H locs 0 0 (QL P r w below args s) (F0 m 25 ls []) := by
    intro x1 x3 x4 x5 x6 h H locs ls hP hl
    unfold B_X0_turned_25 at h
    refine lv_iload hx hb dX0_turned_25 (lv_at hl 5 rfl) ?_
    refine lv_aload_n hx hb dX0_turned_27 rfl (lv_at hl 0 rfl) ?_
    refine lv_iload hx hb dX0_turned_28 (lv_at hl 3 rfl) ?_
    refine vu_i hP (vu_V S hF hP (h := 1) (hlt _ (by decide)) rfl (by decide) rfl (c_X0_lineLength l P hA hn w x4) ok_X0_lineLength ml_X0_79 ⟨Nat.le_of_ble_eq_true rfl, Nat.le_of_ble_eq_true rfl⟩ rfl hl.1 rfl (Nat.le_of_ble_eq_true rfl) dX0_turned_30 ⟨Nat.le_of_ble_eq_true rfl, Nat.le_of_ble_eq_true rfl⟩) (fun H locs ho3 hP => ?_)
    refine lv_iconst (v := 1) hx hb dX0_turned_33 (by decide) ?_
    refine lv_isub hx hb dX0_turned_34 ?_
    refine lv_imul hx hb dX0_turned_35 ?_
    refine lv_istore (lv' := [(7, .int (x6 * ((F_X0_lineLength w x4) - (1 : Int32)))), (0, .ref (P.2.1 1)), (1, .long x1), (3, .int x3), (4, .int x4), (5, .int x5), (6, .int x6)]) hx hb dX0_turned_36 hl (by decide) rfl (fun ls hl => ?_)
    exact hB38 _ _ _ _ _ h _ _ _ hP (lv_sub hl [2, 3, 5, 6, 0] rfl)
  have hB15 : ∀ (x1 : Int64) (x3 : Int32) (x4 : Int32) (x5 : Int32), B_X0_turned_15 w x1 x3 x4 x5 = some r → ∀ (H : Heap) (locs : List Loc) (ls : Array Slot), St P s w H locs → lv_has ls 14 [(0, .ref (P.2.1 1)), (1, .long x1), (3, .int x3), (4, .int x4), (5, .int x5)] → W p l e (rmU 1 0 0) s m args below meth c H locs 0 0 (QL P r w below args s) (F0 m 15 ls []) := by
    intro x1 x3 x4 x5 h H locs ls hP hl
    unfold B_X0_turned_15 at h
    refine lv_iconst (v := 4) hx hb dX0_turned_15 (by decide) ?_
    refine lv_aload_n hx hb dX0_turned_16 rfl (lv_at hl 0 rfl) ?_
    refine lv_iload hx hb dX0_turned_17 (lv_at hl 3 rfl) ?_
    refine vu_i hP (vu_V S hF hP (h := 1) (hlt _ (by decide)) rfl (by decide) rfl (c_X0_lineStride l P hA hn w x4) ok_X0_lineStride ml_X0_76 ⟨Nat.le_of_ble_eq_true rfl, Nat.le_of_ble_eq_true rfl⟩ rfl hl.1 rfl (Nat.le_of_ble_eq_true rfl) dX0_turned_19 ⟨Nat.le_of_ble_eq_true rfl, Nat.le_of_ble_eq_true rfl⟩) (fun H locs ho2 hP => ?_)
    refine lv_imul hx hb dX0_turned_22 ?_
    refine lv_istore (lv' := [(6, .int ((4 : Int32) * (F_X0_lineStride w x4))), (0, .ref (P.2.1 1)), (1, .long x1), (3, .int x3), (4, .int x4), (5, .int x5)]) hx hb dX0_turned_23 hl (by decide) rfl (fun ls hl => ?_)
    exact hB25 _ _ _ _ _ h _ _ _ hP (lv_sub hl [1, 2, 3, 4, 5, 0] rfl)
  unfold F_X0_turned at h
  refine lv_iload_n hx hb dX0_turned_0 rfl (lv_at hl 2 rfl) ?_
  refine lv_iconst (v := 2) hx hb dX0_turned_1 (by decide) ?_
  refine lv_idiv hx hb dX0_turned_2 (by decide) ?_
  refine lv_istore (lv' := [(4, .int (x3 / 2)), (0, .ref (P.2.1 1)), (1, .long x1), (3, .int x3)]) hx hb dX0_turned_3 hl (by decide) rfl (fun ls hl => ?_)
  refine lv_iconst (v := 4) hx hb dX0_turned_5 (by decide) ?_
  refine lv_aload_n hx hb dX0_turned_6 rfl (lv_at hl 1 rfl) ?_
  refine lv_iload hx hb dX0_turned_7 (lv_at hl 0 rfl) ?_
  refine vu_i hP (vu_V S hF hP (h := 1) (hlt _ (by decide)) rfl (by decide) rfl (c_X0_lineStart l P hA hn w (x3 / 2)) ok_X0_lineStart ml_X0_73 ⟨Nat.le_of_ble_eq_true rfl, Nat.le_of_ble_eq_true rfl⟩ rfl hl.1 rfl (Nat.le_of_ble_eq_true rfl) dX0_turned_9 ⟨Nat.le_of_ble_eq_true rfl, Nat.le_of_ble_eq_true rfl⟩) (fun H locs ho1 hP => ?_)
  refine lv_imul hx hb dX0_turned_12 ?_
  refine lv_istore (lv' := [(5, .int ((4 : Int32) * (F_X0_lineStart w (x3 / 2)))), (4, .int (x3 / 2)), (0, .ref (P.2.1 1)), (1, .long x1), (3, .int x3)]) hx hb dX0_turned_13 hl (by decide) rfl (fun ls hl => ?_)
  exact hB15 _ _ _ _ h _ _ _ hP (lv_sub hl [2, 3, 4, 1, 0] rfl)
set_option maxRecDepth 100000 in
set_option maxHeartbeats 4000000 in
theorem c_X0_makeTurn (l : Launch) (P : Pl) (hA : Adr P) (hn : 26 ≤ P.2.2.2.1) (w : Wo) (x1 : Int32) {r : Wo} (h : F_X0_makeTurn w x1 = some r) : CtV l P yX0_makeTurn cX0_makeTurn 2 none 2 [.ref (P.2.1 1), .int x1] w r := by
  have hlt : ∀ h, h < 26 → h < P.2.2.2.1 := fun h q => Nat.lt_of_lt_of_le q hn
  refine vs_met hA (by decide +kernel) (Nat.le_of_ble_eq_true rfl) (fun p e s m args below meth c ls S hF hP hl hr hk => ?_)
  have hx := S.1
  have hb := S.2.1
  replace hl : lv_has ls 2 [(0, .ref (P.2.1 1)), (1, .int x1)] := hl
  have hB13 : ∀ (w : Wo), B_X0_makeTurn_13 w = some r → ∀ (H : Heap) (locs : List Loc) (ls : Array Slot), St P s w H locs → lv_has ls 2 [(0, .ref (P.2.1 1))] → W p l e (rmU 2 0 0) s m args below meth c H locs 0 0 (QV P r below args s) (F0 m 13 ls []) := by
    intro w h H locs ls hP hl
    unfold B_X0_makeTurn_13 at h
    refine lv_aload_n hx hb dX0_makeTurn_13 rfl (lv_at hl 0 rfl) ?_
    refine lv_dup hx hb dX0_makeTurn_14 rfl ?_
    refine vt_getI S hF hP (k := 5) (ci := 0) 1 (hlt _ (by decide)) rfl (by decide) rfl (by decide) rfl (inC_X0 _) (List.mem_cons_of_mem _ fl_X0_28) dX0_makeTurn_15 ?_
    refine lv_iconst (v := 1) hx hb dX0_makeTurn_18 (by decide) ?_
    refine lv_iadd hx hb dX0_makeTurn_19 ?_
    refine vt_putI S hF hP (k := 5) (ci := 0) 1 (hlt _ (by decide)) rfl (by decide) rfl (by decide) rfl tyX0 tyX0_ok nmX0 rfl rfl rfl rfl (by decide) (inC_X0 _) (List.mem_cons_of_mem _ fl_X0_28) dX0_makeTurn_20 (fun H locs hP => ?_)
    obtain rfl := Option.some.inj h
    exact ve_v S hF hP hr hk dX0_makeTurn_23
  unfold F_X0_makeTurn at h
  refine lv_aload_n hx hb dX0_makeTurn_0 rfl (lv_at hl 0 rfl) ?_
  refine lv_aload_n hx hb dX0_makeTurn_1 rfl (lv_at hl 0 rfl) ?_
  refine lv_aload_n hx hb dX0_makeTurn_2 rfl (lv_at hl 0 rfl) ?_
  refine vt_getL S hF hP (k := 2) (ci := 0) 1 (hlt _ (by decide)) rfl (by decide) rfl (by decide) rfl (inC_X0 _) (List.mem_cons_of_mem _ fl_X0_18) dX0_makeTurn_3 ?_
  refine lv_iload_n hx hb dX0_makeTurn_6 rfl (lv_at hl 1 rfl) ?_
  obtain ⟨q1, hq1, h⟩ := ob h
  refine vu_l hP (vu_V S hF hP (h := 1) (hlt _ (by decide)) rfl (by decide) rfl (c_X0_turned l P hA hn w (gL w 1 2) x1 hq1) ok_X0_turned ml_X0_86 ⟨Nat.le_of_ble_eq_true rfl, Nat.le_of_ble_eq_true rfl⟩ rfl hl.1 rfl (Nat.le_of_ble_eq_true rfl) dX0_makeTurn_7 ⟨Nat.le_of_ble_eq_true rfl, Nat.le_of_ble_eq_true rfl⟩) (fun H locs hP => ?_)
  refine vt_putL S hF hP (k := 2) (ci := 0) 1 (hlt _ (by decide)) rfl (by decide) rfl (by decide) rfl tyX0 tyX0_ok nmX0 rfl rfl (by decide) (inC_X0 _) (List.mem_cons_of_mem _ fl_X0_18) dX0_makeTurn_10 (fun H locs hP => ?_)
  exact hB13 _ h _ _ _ hP (lv_sub hl [0] rfl)
set_option maxRecDepth 100000 in
set_option maxHeartbeats 4000000 in
theorem c_X0_turnToGoal (l : Launch) (P : Pl) (hA : Adr P) (hn : 26 ≤ P.2.2.2.1) (w : Wo) (x1 : Int32) {r : Wo} (h : F_X0_turnToGoal w x1 = some r) : CtV l P yX0_turnToGoal cX0_turnToGoal 3 none 3 [.ref (P.2.1 1), .int x1] w r := by
  have hlt : ∀ h, h < 26 → h < P.2.2.2.1 := fun h q => Nat.lt_of_lt_of_le q hn
  refine vs_met hA (by decide +kernel) (Nat.le_of_ble_eq_true rfl) (fun p e s m args below meth c ls S hF hP hl hr hk => ?_)
  have hx := S.1
  have hb := S.2.1
  replace hl : lv_has ls 3 [(0, .ref (P.2.1 1)), (1, .int x1)] := hl
  unfold F_X0_turnToGoal at h
  refine lv_aload_n hx hb dX0_turnToGoal_0 rfl (lv_at hl 0 rfl) ?_
  obtain ⟨q1, hq1, h⟩ := ob h
  refine vu_i hP (vu_V S hF hP (h := 1) (hlt _ (by decide)) rfl (by decide) rfl (c_X0_isReached l P hA hn w hq1) ok_X0_isReached ml_X0_90 ⟨Nat.le_of_ble_eq_true rfl, Nat.le_of_ble_eq_true rfl⟩ rfl hl.1 rfl (Nat.le_of_ble_eq_true rfl) dX0_turnToGoal_1 ⟨Nat.le_of_ble_eq_true rfl, Nat.le_of_ble_eq_true rfl⟩) (fun H locs ho2 hP => ?_)
  refine lv_istore_n (lv' := [(2, .int q1), (0, .ref (P.2.1 1)), (1, .int x1)]) hx hb dX0_turnToGoal_4 rfl hl (by decide) rfl (fun ls hl => ?_)
  refine lv_aload_n hx hb dX0_turnToGoal_5 rfl (lv_at hl 1 rfl) ?_
  refine lv_iload_n hx hb dX0_turnToGoal_6 rfl (lv_at hl 2 rfl) ?_
  obtain ⟨q3, hq3, h⟩ := ob h
  refine vu_v hP (vu_V S hF hP (h := 1) (hlt _ (by decide)) rfl (by decide) rfl (c_X0_makeTurn l P hA hn w x1 hq3) ok_X0_makeTurn ml_X0_94 ⟨Nat.le_of_ble_eq_true rfl, Nat.le_of_ble_eq_true rfl⟩ rfl hl.1 rfl (Nat.le_of_ble_eq_true rfl) dX0_turnToGoal_7 ⟨Nat.le_of_ble_eq_true rfl, Nat.le_of_ble_eq_true rfl⟩) (fun H locs hP => ?_)
  refine lv_iload_n hx hb dX0_turnToGoal_10 rfl (lv_at hl 0 rfl) ?_
  refine lv_if_ne (tgt := 31) hx hb dX0_turnToGoal_11 (by decide) (fun c6 => ?_) (fun c6 => ?_)
  · rw [if_neg c6] at h
    obtain rfl := Option.some.inj h
    exact ve_v S hF hP hr hk dX0_turnToGoal_31
  · rw [if_pos c6] at h
    refine lv_aload_n hx hb dX0_turnToGoal_14 rfl (lv_at hl 1 rfl) ?_
    obtain ⟨q4, hq4, h⟩ := ob h
    refine vu_i hP (vu_V S hF hP (h := 1) (hlt _ (by decide)) rfl (by decide) rfl (c_X0_isReached l P hA hn q3 hq4) ok_X0_isReached ml_X0_90 ⟨Nat.le_of_ble_eq_true rfl, Nat.le_of_ble_eq_true rfl⟩ rfl hl.1 rfl (Nat.le_of_ble_eq_true rfl) dX0_turnToGoal_15 ⟨Nat.le_of_ble_eq_true rfl, Nat.le_of_ble_eq_true rfl⟩) (fun H locs ho5 hP => ?_)
    refine lv_if_eq (tgt := 31) hx hb dX0_turnToGoal_18 (by decide) (fun c7 => ?_) (fun c7 => ?_)
    · rw [if_pos c7] at h
      obtain rfl := Option.some.inj h
      exact ve_v S hF hP hr hk dX0_turnToGoal_31
    · rw [if_neg c7] at h
      refine lv_aload_n hx hb dX0_turnToGoal_21 rfl (lv_at hl 1 rfl) ?_
      refine lv_dup hx hb dX0_turnToGoal_22 rfl ?_
      refine vt_getI S hF hP (k := 10) (ci := 0) 1 (hlt _ (by decide)) rfl (by decide) rfl (by decide) rfl (inC_X0 _) (List.mem_cons_of_mem _ fl_X0_43) dX0_turnToGoal_23 ?_
      refine lv_iconst (v := 1) hx hb dX0_turnToGoal_26 (by decide) ?_
      refine lv_iadd hx hb dX0_turnToGoal_27 ?_
      refine vt_putI S hF hP (k := 10) (ci := 0) 1 (hlt _ (by decide)) rfl (by decide) rfl (by decide) rfl tyX0 tyX0_ok nmX0 rfl rfl rfl rfl (by decide) (inC_X0 _) (List.mem_cons_of_mem _ fl_X0_43) dX0_turnToGoal_28 (fun H locs hP => ?_)
      obtain rfl := Option.some.inj h
      exact ve_v S hF hP hr hk dX0_turnToGoal_31
set_option maxRecDepth 100000 in
set_option maxHeartbeats 4000000 in
theorem c_X0_exchange (l : Launch) (P : Pl) (hA : Adr P) (hn : 26 ≤ P.2.2.2.1) (w : Wo) (x1 : Int32) (x2 : Int32) {r : Wo} (h : F_X0_exchange w x1 x2 = some r) : CtV l P yX0_exchange cX0_exchange 4 none 1 [.ref (P.2.1 1), .int x1, .int x2] w r := by
  have hlt : ∀ h, h < 26 → h < P.2.2.2.1 := fun h q => Nat.lt_of_lt_of_le q hn
  refine vs_met hA (by decide +kernel) (Nat.le_of_ble_eq_true rfl) (fun p e s m args below meth c ls S hF hP hl hr hk => ?_)
  have hx := S.1
  have hb := S.2.1
  replace hl : lv_has ls 4 [(0, .ref (P.2.1 1)), (1, .int x1), (2, .int x2)] := hl
  have hB42 : ∀ (w : Wo), B_X0_exchange_42 w = some r → ∀ (H : Heap) (locs : List Loc) (ls : Array Slot), St P s w H locs → lv_has ls 4 [(0, .ref (P.2.1 1))] → W p l e (rmU 1 0 0) s m args below meth c H locs 0 0 (QV P r below args s) (F0 m 42 ls []) := by
    intro w h H locs ls hP hl
    unfold B_X0_exchange_42 at h
    refine lv_aload_n hx hb dX0_exchange_42 rfl (lv_at hl 0 rfl) ?_
    refine lv_dup hx hb dX0_exchange_43 rfl ?_
    refine vt_getI S hF hP (k := 6) (ci := 0) 1 (hlt _ (by decide)) rfl (by decide) rfl (by decide) rfl (inC_X0 _) (List.mem_cons_of_mem _ fl_X0_31) dX0_exchange_44 ?_
    refine lv_iconst (v := 1) hx hb dX0_exchange_47 (by decide) ?_
    refine lv_iadd hx hb dX0_exchange_48 ?_
    refine vt_putI S hF hP (k := 6) (ci := 0) 1 (hlt _ (by decide)) rfl (by decide) rfl (by decide) rfl tyX0 tyX0_ok nmX0 rfl rfl rfl rfl (by decide) (inC_X0 _) (List.mem_cons_of_mem _ fl_X0_31) dX0_exchange_49 (fun H locs hP => ?_)
    obtain rfl := Option.some.inj h
    exact ve_v S hF hP hr hk dX0_exchange_52
  have hB29 : ∀ (w : Wo) (x2 : Int32) (x3 : Int32), B_X0_exchange_29 w x2 x3 = some r → ∀ (H : Heap) (locs : List Loc) (ls : Array Slot), St P s w H locs → lv_has ls 4 [(0, .ref (P.2.1 1)), (2, .int x2), (3, .int x3)] → W p l e (rmU 1 0 0) s m args below meth c H locs 0 0 (QV P r below args s) (F0 m 29 ls []) := by
    intro w x2 x3 h H locs ls hP hl
    unfold B_X0_exchange_29 at h
    refine lv_aload_n hx hb dX0_exchange_29 rfl (lv_at hl 0 rfl) ?_
    refine lv_aload_n hx hb dX0_exchange_30 rfl (lv_at hl 0 rfl) ?_
    refine vt_getL S hF hP (k := 2) (ci := 0) 1 (hlt _ (by decide)) rfl (by decide) rfl (by decide) rfl (inC_X0 _) (List.mem_cons_of_mem _ fl_X0_18) dX0_exchange_31 ?_
    refine lv_iload_n hx hb dX0_exchange_34 rfl (lv_at hl 1 rfl) ?_
    refine lv_iload_n hx hb dX0_exchange_35 rfl (lv_at hl 2 rfl) ?_
    refine vu_l hP (vu_SN S hF hP (host := RX5) (c_X5_withCode l P hA hn w (gL w 1 2) x2 x3) ok_X5_withCode (by decide +kernel) ⟨Nat.le_of_ble_eq_true rfl, Nat.le_of_ble_eq_true rfl⟩ rfl hl.1 rfl (Nat.le_of_ble_eq_true rfl) dX0_exchange_36 ⟨Nat.le_of_ble_eq_true rfl, Nat.le_of_ble_eq_true rfl⟩) (fun H locs hP => ?_)
    refine vt_putL S hF hP (k := 2) (ci := 0) 1 (hlt _ (by decide)) rfl (by decide) rfl (by decide) rfl tyX0 tyX0_ok nmX0 rfl rfl (by decide) (inC_X0 _) (List.mem_cons_of_mem _ fl_X0_18) dX0_exchange_39 (fun H locs hP => ?_)
    exact hB42 _ h _ _ _ hP (lv_sub hl [0] rfl)
  unfold F_X0_exchange at h
  refine lv_aload_n hx hb dX0_exchange_0 rfl (lv_at hl 0 rfl) ?_
  refine vt_getL S hF hP (k := 2) (ci := 0) 1 (hlt _ (by decide)) rfl (by decide) rfl (by decide) rfl (inC_X0 _) (List.mem_cons_of_mem _ fl_X0_18) dX0_exchange_1 ?_
  refine lv_iload_n hx hb dX0_exchange_4 rfl (lv_at hl 1 rfl) ?_
  refine vu_i hP (vu_SN S hF hP (host := RX5) (c_X5_codeAt l P hA hn w (gL w 1 2) x1) ok_X5_codeAt (by decide +kernel) ⟨Nat.le_of_ble_eq_true rfl, Nat.le_of_ble_eq_true rfl⟩ rfl hl.1 rfl (Nat.le_of_ble_eq_true rfl) dX0_exchange_5 ⟨Nat.le_of_ble_eq_true rfl, Nat.le_of_ble_eq_true rfl⟩) (fun H locs ho1 hP => ?_)
  refine lv_istore_n (lv' := [(3, .int (F_X5_codeAt (gL w 1 2) x1)), (0, .ref (P.2.1 1)), (1, .int x1), (2, .int x2)]) hx hb dX0_exchange_8 rfl hl (by decide) rfl (fun ls hl => ?_)
  refine lv_aload_n hx hb dX0_exchange_9 rfl (lv_at hl 1 rfl) ?_
  refine lv_aload_n hx hb dX0_exchange_10 rfl (lv_at hl 1 rfl) ?_
  refine vt_getL S hF hP (k := 2) (ci := 0) 1 (hlt _ (by decide)) rfl (by decide) rfl (by decide) rfl (inC_X0 _) (List.mem_cons_of_mem _ fl_X0_18) dX0_exchange_11 ?_
  refine lv_iload_n hx hb dX0_exchange_14 rfl (lv_at hl 2 rfl) ?_
  refine lv_aload_n hx hb dX0_exchange_15 rfl (lv_at hl 1 rfl) ?_
  refine vt_getL S hF hP (k := 2) (ci := 0) 1 (hlt _ (by decide)) rfl (by decide) rfl (by decide) rfl (inC_X0 _) (List.mem_cons_of_mem _ fl_X0_18) dX0_exchange_16 ?_
  refine lv_iload_n hx hb dX0_exchange_19 rfl (lv_at hl 3 rfl) ?_
  refine vu_i hP (vu_SN S hF hP (host := RX5) (c_X5_codeAt l P hA hn w (gL w 1 2) x2) ok_X5_codeAt (by decide +kernel) ⟨Nat.le_of_ble_eq_true rfl, Nat.le_of_ble_eq_true rfl⟩ rfl hl.1 rfl (Nat.le_of_ble_eq_true rfl) dX0_exchange_20 ⟨Nat.le_of_ble_eq_true rfl, Nat.le_of_ble_eq_true rfl⟩) (fun H locs ho2 hP => ?_)
  refine vu_l hP (vu_SN S hF hP (host := RX5) (c_X5_withCode l P hA hn w (gL w 1 2) x1 (F_X5_codeAt (gL w 1 2) x2)) ok_X5_withCode (by decide +kernel) ⟨Nat.le_of_ble_eq_true rfl, Nat.le_of_ble_eq_true rfl⟩ rfl hl.1 rfl (Nat.le_of_ble_eq_true rfl) dX0_exchange_23 ⟨Nat.le_of_ble_eq_true rfl, Nat.le_of_ble_eq_true rfl⟩) (fun H locs hP => ?_)
  refine vt_putL S hF hP (k := 2) (ci := 0) 1 (hlt _ (by decide)) rfl (by decide) rfl (by decide) rfl tyX0 tyX0_ok nmX0 rfl rfl (by decide) (inC_X0 _) (List.mem_cons_of_mem _ fl_X0_18) dX0_exchange_26 (fun H locs hP => ?_)
  exact hB29 _ _ _ h _ _ _ hP (lv_sub hl [1, 3, 0] rfl)
set_option maxRecDepth 100000 in
set_option maxHeartbeats 4000000 in
theorem c_X0_mix (l : Launch) (P : Pl) (hA : Adr P) (hn : 26 ≤ P.2.2.2.1) (w : Wo) (x1 : Int32) (x2 : Int32) {r : Wo} (h : F_X0_mix w x1 x2 = some r) : CtV l P yX0_mix cX0_mix 7 none 3 [.ref (P.2.1 1), .int x1, .int x2] w r := by
  have hlt : ∀ h, h < 26 → h < P.2.2.2.1 := fun h q => Nat.lt_of_lt_of_le q hn
  refine vs_met hA (by decide +kernel) (Nat.le_of_ble_eq_true rfl) (fun p e s m args below meth c ls S hF hP hl hr hk => ?_)
  have hx := S.1
  have hb := S.2.1
  replace hl : lv_has ls 7 [(0, .ref (P.2.1 1)), (1, .int x1), (2, .int x2)] := hl
  have hB61 : ∀ (w : Wo), B_X0_mix_61 w = some r → ∀ (H : Heap) (locs : List Loc) (ls : Array Slot), St P s w H locs → lv_has ls 7 [(0, .ref (P.2.1 1))] → W p l e (rmU 3 0 0) s m args below meth c H locs 0 0 (QV P r below args s) (F0 m 61 ls []) := by
    intro w h H locs ls hP hl
    unfold B_X0_mix_61 at h
    refine lv_aload_n hx hb dX0_mix_61 rfl (lv_at hl 0 rfl) ?_
    refine lv_dup hx hb dX0_mix_62 rfl ?_
    refine vt_getI S hF hP (k := 7) (ci := 0) 1 (hlt _ (by decide)) rfl (by decide) rfl (by decide) rfl (inC_X0 _) (List.mem_cons_of_mem _ fl_X0_34) dX0_mix_63 ?_
    refine lv_iconst (v := 1) hx hb dX0_mix_66 (by decide) ?_
    refine lv_iadd hx hb dX0_mix_67 ?_
    refine vt_putI S hF hP (k := 7) (ci := 0) 1 (hlt _ (by decide)) rfl (by decide) rfl (by decide) rfl tyX0 tyX0_ok nmX0 rfl rfl rfl rfl (by decide) (inC_X0 _) (List.mem_cons_of_mem _ fl_X0_34) dX0_mix_68 (fun H locs hP => ?_)
    obtain rfl := Option.some.inj h
    exact ve_v S hF hP hr hk dX0_mix_71
  have hL11 : ∀ (x2 : Int32) (x4 : Int32) (n : Nat) (w : Wo) (x3 : Int32) (x5 : Int32), jl3 (B_X0_mix_11 x2 x4) n w x3 x5 = some r → ∀ (H : Heap) (locs : List Loc) (ls : Array Slot), St P s w H locs → lv_has ls 7 [(0, .ref (P.2.1 1)), (2, .int x2), (3, .int x3), (4, .int x4), (5, .int x5)] → W p l e (rmU 3 0 0) s m args below meth c H locs 0 0 (QV P r below args s) (F0 m 11 ls []) := by
    intro x2 x4
    intro n
    induction n with
    | zero =>
      intro w x3 x5 h
      cases h
    | succ n ih11 =>
      intro w x3 x5 h H locs ls hP hl
      replace h : B_X0_mix_11 x2 x4 (jl3 (B_X0_mix_11 x2 x4) n) w x3 x5 = some r := h
      revert h ih11
      generalize jl3 (B_X0_mix_11 x2 x4) n = k11
      intro ih11 h
      have hB55 : ∀ (w : Wo) (x3 : Int32) (x5 : Int32), B_X0_mix_55 k11 w x2 x3 x4 x5 = some r → ∀ (H : Heap) (locs : List Loc) (ls : Array Slot), St P s w H locs → lv_has ls 7 [(0, .ref (P.2.1 1)), (2, .int x2), (3, .int x3), (4, .int x4), (5, .int x5)] → W p l e (rmU 3 0 0) s m args below meth c H locs 0 0 (QV P r below args s) (F0 m 55 ls []) := by
        intro w x3 x5 h H locs ls hP hl
        unfold B_X0_mix_55 at h
        refine lv_iinc (v := (x5 + 1)) (lv' := [(5, .int (x5 + 1)), (0, .ref (P.2.1 1)), (2, .int x2), (3, .int x3), (4, .int x4)]) hx hb dX0_mix_55 hl (k := 4) rfl rfl (by decide) rfl (fun ls hl => ?_)
        refine lv_goto (tgt := 11) hx hb dX0_mix_58 (by decide) ?_
        exact ih11 _ _ _ h _ _ _ hP (lv_sub hl [1, 2, 3, 4, 0] rfl)
      have hB34 : ∀ (w : Wo) (x3 : Int32) (x5 : Int32), B_X0_mix_34 k11 w x2 x3 x4 x5 = some r → ∀ (H : Heap) (locs : List Loc) (ls : Array Slot), St P s w H locs → lv_has ls 7 [(0, .ref (P.2.1 1)), (2, .int x2), (3, .int x3), (4, .int x4), (5, .int x5)] → W p l e (rmU 3 0 0) s m args below meth c H locs 0 0 (QV P r below args s) (F0 m 34 ls []) := by
        intro w x3 x5 h H locs ls hP hl
        unfold B_X0_mix_34 at h
        refine lv_iload_n hx hb dX0_mix_34 rfl (lv_at hl 2 rfl) ?_
        refine lv_iload hx hb dX0_mix_35 (lv_at hl 3 rfl) ?_
        obtain ⟨c5, h⟩ := chk h
        refine lv_irem hx hb dX0_mix_37 c5 ?_
        refine lv_istore (lv' := [(6, .int (jrem x3 x4)), (0, .ref (P.2.1 1)), (2, .int x2), (3, .int x3), (4, .int x4), (5, .int x5)]) hx hb dX0_mix_38 hl (by decide) rfl (fun ls hl => ?_)
        refine lv_aload_n hx hb dX0_mix_40 rfl (lv_at hl 1 rfl) ?_
        refine lv_iload hx hb dX0_mix_41 (lv_at hl 0 rfl) ?_
        obtain ⟨q2, hq2, h⟩ := ob h
        refine vu_i hP (vu_V S hF hP (h := 1) (hlt _ (by decide)) rfl (by decide) rfl (c_X0_canTurn l P hA hn w (jrem x3 x4) hq2) ok_X0_canTurn ml_X0_102 ⟨Nat.le_of_ble_eq_true rfl, Nat.le_of_ble_eq_true rfl⟩ rfl hl.1 rfl (Nat.le_of_ble_eq_true rfl) dX0_mix_43 ⟨Nat.le_of_ble_eq_true rfl, Nat.le_of_ble_eq_true rfl⟩) (fun H locs ho3 hP => ?_)
        refine lv_if_eq (tgt := 55) hx hb dX0_mix_46 (by decide) (fun c6 => ?_) (fun c6 => ?_)
        · rw [if_pos c6] at h
          exact hB55 _ _ _ h _ _ _ hP (lv_sub hl [1, 2, 3, 4, 5] rfl)
        · rw [if_neg c6] at h
          refine lv_aload_n hx hb dX0_mix_49 rfl (lv_at hl 1 rfl) ?_
          refine lv_iload hx hb dX0_mix_50 (lv_at hl 0 rfl) ?_
          obtain ⟨q4, hq4, h⟩ := ob h
          refine vu_v hP (vu_V S hF hP (h := 1) (hlt _ (by decide)) rfl (by decide) rfl (c_X0_makeTurn l P hA hn w (jrem x3 x4) hq4) ok_X0_makeTurn ml_X0_94 ⟨Nat.le_of_ble_eq_true rfl, Nat.le_of_ble_eq_true rfl⟩ rfl hl.1 rfl (Nat.le_of_ble_eq_true rfl) dX0_mix_52 ⟨Nat.le_of_ble_eq_true rfl, Nat.le_of_ble_eq_true rfl⟩) (fun H locs hP => ?_)
          exact hB55 _ _ _ h _ _ _ hP (lv_sub hl [1, 2, 3, 4, 5] rfl)
      unfold B_X0_mix_11 at h
      refine lv_iload hx hb dX0_mix_11 (lv_at hl 4 rfl) ?_
      refine lv_iload_n hx hb dX0_mix_13 rfl (lv_at hl 1 rfl) ?_
      refine lv_icmp_ge (tgt := 61) hx hb dX0_mix_14 (by decide) (fun c7 => ?_) (fun c7 => ?_)
      · rw [if_pos c7] at h
        exact hB61 _ h _ _ _ hP (lv_sub hl [0] rfl)
      · rw [if_neg c7] at h
        refine lv_iload hx hb dX0_mix_17 (lv_at hl 3 rfl) ?_
        refine lv_if_le (tgt := 61) hx hb dX0_mix_19 (by decide) (fun c8 => ?_) (fun c8 => ?_)
        · rw [if_pos c8] at h
          exact hB61 _ h _ _ _ hP (lv_sub hl [0] rfl)
        · rw [if_neg c8] at h
          refine lv_bipush (v := 73) hx hb dX0_mix_22 (by decide) ?_
          refine lv_iload_n hx hb dX0_mix_24 rfl (lv_at hl 2 rfl) ?_
          refine lv_imul hx hb dX0_mix_25 ?_
          refine lv_bipush (v := 41) hx hb dX0_mix_26 (by decide) ?_
          refine lv_iadd hx hb dX0_mix_28 ?_
          refine lv_sipush (v := 1000) hx hb dX0_mix_29 (by decide) ?_
          refine lv_irem hx hb dX0_mix_32 (by decide) ?_
          refine lv_istore_n (lv' := [(3, .int (jrem (((73 : Int32) * x3) + (41 : Int32)) (1000 : Int32))), (0, .ref (P.2.1 1)), (2, .int x2), (4, .int x4), (5, .int x5)]) hx hb dX0_mix_33 rfl hl (by decide) rfl (fun ls hl => ?_)
          exact hB34 _ _ _ h _ _ _ hP (lv_sub hl [1, 2, 0, 3, 4] rfl)
  unfold F_X0_mix at h
  refine lv_iload_n hx hb dX0_mix_0 rfl (lv_at hl 1 rfl) ?_
  refine lv_istore_n (lv' := [(3, .int x1), (0, .ref (P.2.1 1)), (1, .int x1), (2, .int x2)]) hx hb dX0_mix_1 rfl hl (by decide) rfl (fun ls hl => ?_)
  refine lv_aload_n hx hb dX0_mix_2 rfl (lv_at hl 1 rfl) ?_
  refine vu_i hP (vu_V S hF hP (h := 1) (hlt _ (by decide)) rfl (by decide) rfl (c_X0_turns l P hA hn w) ok_X0_turns ml_X0_57 ⟨Nat.le_of_ble_eq_true rfl, Nat.le_of_ble_eq_true rfl⟩ rfl hl.1 rfl (Nat.le_of_ble_eq_true rfl) dX0_mix_3 ⟨Nat.le_of_ble_eq_true rfl, Nat.le_of_ble_eq_true rfl⟩) (fun H locs ho1 hP => ?_)
  refine lv_istore (lv' := [(4, .int (F_X0_turns w)), (3, .int x1), (0, .ref (P.2.1 1)), (1, .int x1), (2, .int x2)]) hx hb dX0_mix_6 hl (by decide) rfl (fun ls hl => ?_)
  refine lv_iconst (v := 0) hx hb dX0_mix_8 (by decide) ?_
  refine lv_istore (lv' := [(5, .int 0), (4, .int (F_X0_turns w)), (3, .int x1), (0, .ref (P.2.1 1)), (1, .int x1), (2, .int x2)]) hx hb dX0_mix_9 hl (by decide) rfl (fun ls hl => ?_)
  exact hL11 _ _ fu _ _ _ h _ _ _ hP (lv_sub hl [3, 5, 2, 1, 0] rfl)
set_option maxRecDepth 100000 in
set_option maxHeartbeats 4000000 in
theorem c_X5_carryOut (l : Launch) (P : Pl) (hA : Adr P) (hn : 26 ≤ P.2.2.2.1) (w : Wo) (x1 : Int32) (x2 : Int32) (x3 : Int32) {r : Wo} (h : F_X5_carryOut w x1 x2 x3 = some r) : CtV l P yX5_carryOut cX5_carryOut 4 none 4 [.ref (P.2.1 0), .int x1, .int x2, .int x3] w r := by
  have hlt : ∀ h, h < 26 → h < P.2.2.2.1 := fun h q => Nat.lt_of_lt_of_le q hn
  refine vs_met hA (by decide +kernel) (Nat.le_of_ble_eq_true rfl) (fun p e s m args below meth c ls S hF hP hl hr hk => ?_)
  have hx := S.1
  have hb := S.2.1
  replace hl : lv_has ls 4 [(0, .ref (P.2.1 0)), (1, .int x1), (2, .int x2), (3, .int x3)] := hl
  unfold F_X5_carryOut at h
  refine lv_iload_n hx hb dX5_carryOut_0 rfl (lv_at hl 1 rfl) ?_
  by_cases c5 : x1 = 98
  · rw [if_pos c5] at h
    refine lv_tableIn (off := 107) (tgt := 108) hx hb dX5_carryOut_1 (by rw [c5]; decide) (by rw [c5]; decide) (by rw [c5]; rfl) (by decide) ?_
    refine lv_aload_n hx hb dX5_carryOut_108 rfl (lv_at hl 0 rfl) ?_
    refine vt_getR (r := 1) S hF hP (k := 0) (ci := 5) 0 (hlt _ (by decide)) rfl (by decide) rfl (by decide) rfl rfl (inC_X5 _) (List.mem_cons_of_mem _ fl_X5_12) dX5_carryOut_109 ?_
    refine lv_iload_n hx hb dX5_carryOut_112 rfl (lv_at hl 2 rfl) ?_
    refine lv_iload_n hx hb dX5_carryOut_113 rfl (lv_at hl 3 rfl) ?_
    obtain ⟨q1, hq1, h⟩ := ob h
    refine vu_v hP (vu_V S hF hP (h := 1) (hlt _ (by decide)) rfl (by decide) rfl (c_X0_lay l P hA hn w x2 x3 hq1) ok_X0_lay ml_X5_71 ⟨Nat.le_of_ble_eq_true rfl, Nat.le_of_ble_eq_true rfl⟩ rfl hl.1 rfl (Nat.le_of_ble_eq_true rfl) dX5_carryOut_114 ⟨Nat.le_of_ble_eq_true rfl, Nat.le_of_ble_eq_true rfl⟩) (fun H locs hP => ?_)
    refine lv_aload_n hx hb dX5_carryOut_117 rfl (lv_at hl 0 rfl) ?_
    refine vt_getR (r := 1) S hF hP (k := 0) (ci := 5) 0 (hlt _ (by decide)) rfl (by decide) rfl (by decide) rfl rfl (inC_X5 _) (List.mem_cons_of_mem _ fl_X5_12) dX5_carryOut_118 ?_
    refine lv_dup hx hb dX5_carryOut_121 rfl ?_
    refine vt_getI S hF hP (k := 9) (ci := 0) 1 (hlt _ (by decide)) rfl (by decide) rfl (by decide) rfl (inC_X0 _) (List.mem_cons_of_mem _ fl_X5_281) dX5_carryOut_122 ?_
    refine lv_iconst (v := 1) hx hb dX5_carryOut_125 (by decide) ?_
    refine lv_iadd hx hb dX5_carryOut_126 ?_
    refine vt_putI S hF hP (k := 9) (ci := 0) 1 (hlt _ (by decide)) rfl (by decide) rfl (by decide) rfl tyX0 tyX0_ok nmX0 rfl rfl rfl rfl (by decide) (inC_X0 _) (List.mem_cons_of_mem _ fl_X5_281) dX5_carryOut_127 (fun H locs hP => ?_)
    refine lv_goto (tgt := 230) hx hb dX5_carryOut_130 (by decide) ?_
    obtain rfl := Option.some.inj h
    exact ve_v S hF hP hr hk dX5_carryOut_230
  rw [if_neg c5] at h
  by_cases c6 : x1 = 99
  · rw [if_pos c6] at h
    refine lv_tableIn (off := 229) (tgt := 230) hx hb dX5_carryOut_1 (by rw [c6]; decide) (by rw [c6]; decide) (by rw [c6]; rfl) (by decide) ?_
    obtain rfl := Option.some.inj h
    exact ve_v S hF hP hr hk dX5_carryOut_230
  rw [if_neg c6] at h
  by_cases c7 : x1 = 100
  · rw [if_pos c7] at h
    refine lv_tableIn (off := 229) (tgt := 230) hx hb dX5_carryOut_1 (by rw [c7]; decide) (by rw [c7]; decide) (by rw [c7]; rfl) (by decide) ?_
    obtain rfl := Option.some.inj h
    exact ve_v S hF hP hr hk dX5_carryOut_230
  rw [if_neg c7] at h
  by_cases c8 : x1 = 101
  · rw [if_pos c8] at h
    refine lv_tableIn (off := 229) (tgt := 230) hx hb dX5_carryOut_1 (by rw [c8]; decide) (by rw [c8]; decide) (by rw [c8]; rfl) (by decide) ?_
    obtain rfl := Option.some.inj h
    exact ve_v S hF hP hr hk dX5_carryOut_230
  rw [if_neg c8] at h
  by_cases c9 : x1 = 102
  · rw [if_pos c9] at h
    refine lv_tableIn (off := 229) (tgt := 230) hx hb dX5_carryOut_1 (by rw [c9]; decide) (by rw [c9]; decide) (by rw [c9]; rfl) (by decide) ?_
    obtain rfl := Option.some.inj h
    exact ve_v S hF hP hr hk dX5_carryOut_230
  rw [if_neg c9] at h
  by_cases c10 : x1 = 103
  · rw [if_pos c10] at h
    refine lv_tableIn (off := 154) (tgt := 155) hx hb dX5_carryOut_1 (by rw [c10]; decide) (by rw [c10]; decide) (by rw [c10]; rfl) (by decide) ?_
    refine lv_aload_n hx hb dX5_carryOut_155 rfl (lv_at hl 0 rfl) ?_
    refine vt_getR (r := 1) S hF hP (k := 0) (ci := 5) 0 (hlt _ (by decide)) rfl (by decide) rfl (by decide) rfl rfl (inC_X5 _) (List.mem_cons_of_mem _ fl_X5_12) dX5_carryOut_156 ?_
    refine lv_aload_n hx hb dX5_carryOut_159 rfl (lv_at hl 0 rfl) ?_
    refine vt_getR (r := 1) S hF hP (k := 0) (ci := 5) 0 (hlt _ (by decide)) rfl (by decide) rfl (by decide) rfl rfl (inC_X5 _) (List.mem_cons_of_mem _ fl_X5_12) dX5_carryOut_160 ?_
    refine vt_getL S hF hP (k := 3) (ci := 0) 1 (hlt _ (by decide)) rfl (by decide) rfl (by decide) rfl (inC_X0 _) (List.mem_cons_of_mem _ fl_X5_99) dX5_carryOut_163 ?_
    refine lv_iload_n hx hb dX5_carryOut_166 rfl (lv_at hl 2 rfl) ?_
    refine lv_iload_n hx hb dX5_carryOut_167 rfl (lv_at hl 3 rfl) ?_
    refine vu_l hP (vu_S S hF hP (c_X5_withCode l P hA hn w (gL w 1 3) x2 x3) ok_X5_withCode ml_X5_359 ⟨Nat.le_of_ble_eq_true rfl, Nat.le_of_ble_eq_true rfl⟩ rfl hl.1 rfl (Nat.le_of_ble_eq_true rfl) dX5_carryOut_168 ⟨Nat.le_of_ble_eq_true rfl, Nat.le_of_ble_eq_true rfl⟩) (fun H locs hP => ?_)
    refine vt_putL S hF hP (k := 3) (ci := 0) 1 (hlt _ (by decide)) rfl (by decide) rfl (by decide) rfl tyX0 tyX0_ok nmX0 rfl rfl (by decide) (inC_X0 _) (List.mem_cons_of_mem _ fl_X5_99) dX5_carryOut_171 (fun H locs hP => ?_)
    refine lv_goto (tgt := 230) hx hb dX5_carryOut_174 (by decide) ?_
    obtain rfl := Option.some.inj h
    exact ve_v S hF hP hr hk dX5_carryOut_230
  rw [if_neg c10] at h
  by_cases c11 : x1 = 104
  · rw [if_pos c11] at h
    refine lv_tableIn (off := 229) (tgt := 230) hx hb dX5_carryOut_1 (by rw [c11]; decide) (by rw [c11]; decide) (by rw [c11]; rfl) (by decide) ?_
    obtain rfl := Option.some.inj h
    exact ve_v S hF hP hr hk dX5_carryOut_230
  rw [if_neg c11] at h
  by_cases c12 : x1 = 105
  · rw [if_pos c12] at h
    refine lv_tableIn (off := 229) (tgt := 230) hx hb dX5_carryOut_1 (by rw [c12]; decide) (by rw [c12]; decide) (by rw [c12]; rfl) (by decide) ?_
    obtain rfl := Option.some.inj h
    exact ve_v S hF hP hr hk dX5_carryOut_230
  rw [if_neg c12] at h
  by_cases c13 : x1 = 106
  · rw [if_pos c13] at h
    refine lv_tableIn (off := 229) (tgt := 230) hx hb dX5_carryOut_1 (by rw [c13]; decide) (by rw [c13]; decide) (by rw [c13]; rfl) (by decide) ?_
    obtain rfl := Option.some.inj h
    exact ve_v S hF hP hr hk dX5_carryOut_230
  rw [if_neg c13] at h
  by_cases c14 : x1 = 107
  · rw [if_pos c14] at h
    refine lv_tableIn (off := 229) (tgt := 230) hx hb dX5_carryOut_1 (by rw [c14]; decide) (by rw [c14]; decide) (by rw [c14]; rfl) (by decide) ?_
    obtain rfl := Option.some.inj h
    exact ve_v S hF hP hr hk dX5_carryOut_230
  rw [if_neg c14] at h
  by_cases c15 : x1 = 108
  · rw [if_pos c15] at h
    refine lv_tableIn (off := 229) (tgt := 230) hx hb dX5_carryOut_1 (by rw [c15]; decide) (by rw [c15]; decide) (by rw [c15]; rfl) (by decide) ?_
    obtain rfl := Option.some.inj h
    exact ve_v S hF hP hr hk dX5_carryOut_230
  rw [if_neg c15] at h
  by_cases c16 : x1 = 109
  · rw [if_pos c16] at h
    refine lv_tableIn (off := 229) (tgt := 230) hx hb dX5_carryOut_1 (by rw [c16]; decide) (by rw [c16]; decide) (by rw [c16]; rfl) (by decide) ?_
    obtain rfl := Option.some.inj h
    exact ve_v S hF hP hr hk dX5_carryOut_230
  rw [if_neg c16] at h
  by_cases c17 : x1 = 110
  · rw [if_pos c17] at h
    refine lv_tableIn (off := 229) (tgt := 230) hx hb dX5_carryOut_1 (by rw [c17]; decide) (by rw [c17]; decide) (by rw [c17]; rfl) (by decide) ?_
    obtain rfl := Option.some.inj h
    exact ve_v S hF hP hr hk dX5_carryOut_230
  rw [if_neg c17] at h
  by_cases c18 : x1 = 111
  · rw [if_pos c18] at h
    refine lv_tableIn (off := 229) (tgt := 230) hx hb dX5_carryOut_1 (by rw [c18]; decide) (by rw [c18]; decide) (by rw [c18]; rfl) (by decide) ?_
    obtain rfl := Option.some.inj h
    exact ve_v S hF hP hr hk dX5_carryOut_230
  rw [if_neg c18] at h
  by_cases c19 : x1 = 112
  · rw [if_pos c19] at h
    refine lv_tableIn (off := 132) (tgt := 133) hx hb dX5_carryOut_1 (by rw [c19]; decide) (by rw [c19]; decide) (by rw [c19]; rfl) (by decide) ?_
    refine lv_aload_n hx hb dX5_carryOut_133 rfl (lv_at hl 0 rfl) ?_
    refine vt_getR (r := 1) S hF hP (k := 0) (ci := 5) 0 (hlt _ (by decide)) rfl (by decide) rfl (by decide) rfl rfl (inC_X5 _) (List.mem_cons_of_mem _ fl_X5_12) dX5_carryOut_134 ?_
    refine lv_aload_n hx hb dX5_carryOut_137 rfl (lv_at hl 0 rfl) ?_
    refine vt_getR (r := 1) S hF hP (k := 0) (ci := 5) 0 (hlt _ (by decide)) rfl (by decide) rfl (by decide) rfl rfl (inC_X5 _) (List.mem_cons_of_mem _ fl_X5_12) dX5_carryOut_138 ?_
    refine vt_getL S hF hP (k := 2) (ci := 0) 1 (hlt _ (by decide)) rfl (by decide) rfl (by decide) rfl (inC_X0 _) (List.mem_cons_of_mem _ fl_X5_83) dX5_carryOut_141 ?_
    refine lv_iload_n hx hb dX5_carryOut_144 rfl (lv_at hl 2 rfl) ?_
    refine lv_iload_n hx hb dX5_carryOut_145 rfl (lv_at hl 3 rfl) ?_
    refine vu_l hP (vu_S S hF hP (c_X5_withCode l P hA hn w (gL w 1 2) x2 x3) ok_X5_withCode ml_X5_359 ⟨Nat.le_of_ble_eq_true rfl, Nat.le_of_ble_eq_true rfl⟩ rfl hl.1 rfl (Nat.le_of_ble_eq_true rfl) dX5_carryOut_146 ⟨Nat.le_of_ble_eq_true rfl, Nat.le_of_ble_eq_true rfl⟩) (fun H locs hP => ?_)
    refine vt_putL S hF hP (k := 2) (ci := 0) 1 (hlt _ (by decide)) rfl (by decide) rfl (by decide) rfl tyX0 tyX0_ok nmX0 rfl rfl (by decide) (inC_X0 _) (List.mem_cons_of_mem _ fl_X5_83) dX5_carryOut_149 (fun H locs hP => ?_)
    refine lv_goto (tgt := 230) hx hb dX5_carryOut_152 (by decide) ?_
    obtain rfl := Option.some.inj h
    exact ve_v S hF hP hr hk dX5_carryOut_230
  rw [if_neg c19] at h
  by_cases c20 : x1 = 113
  · rw [if_pos c20] at h
    refine lv_tableIn (off := 229) (tgt := 230) hx hb dX5_carryOut_1 (by rw [c20]; decide) (by rw [c20]; decide) (by rw [c20]; rfl) (by decide) ?_
    obtain rfl := Option.some.inj h
    exact ve_v S hF hP hr hk dX5_carryOut_230
  rw [if_neg c20] at h
  by_cases c21 : x1 = 114
  · rw [if_pos c21] at h
    refine lv_tableIn (off := 217) (tgt := 218) hx hb dX5_carryOut_1 (by rw [c21]; decide) (by rw [c21]; decide) (by rw [c21]; rfl) (by decide) ?_
    refine lv_aload_n hx hb dX5_carryOut_218 rfl (lv_at hl 0 rfl) ?_
    refine vt_getR (r := 1) S hF hP (k := 0) (ci := 5) 0 (hlt _ (by decide)) rfl (by decide) rfl (by decide) rfl rfl (inC_X5 _) (List.mem_cons_of_mem _ fl_X5_12) dX5_carryOut_219 ?_
    refine lv_iload_n hx hb dX5_carryOut_222 rfl (lv_at hl 2 rfl) ?_
    refine lv_iload_n hx hb dX5_carryOut_223 rfl (lv_at hl 3 rfl) ?_
    obtain ⟨q2, hq2, h⟩ := ob h
    refine vu_v hP (vu_V S hF hP (h := 1) (hlt _ (by decide)) rfl (by decide) rfl (c_X0_mix l P hA hn w x2 x3 hq2) ok_X0_mix ml_X5_369 ⟨Nat.le_of_ble_eq_true rfl, Nat.le_of_ble_eq_true rfl⟩ rfl hl.1 rfl (Nat.le_of_ble_eq_true rfl) dX5_carryOut_224 ⟨Nat.le_of_ble_eq_true rfl, Nat.le_of_ble_eq_true rfl⟩) (fun H locs hP => ?_)
    refine lv_goto (tgt := 230) hx hb dX5_carryOut_227 (by decide) ?_
    obtain rfl := Option.some.inj h
    exact ve_v S hF hP hr hk dX5_carryOut_230
  rw [if_neg c21] at h
  by_cases c22 : x1 = 115
  · rw [if_pos c22] at h
    refine lv_tableIn (off := 187) (tgt := 188) hx hb dX5_carryOut_1 (by rw [c22]; decide) (by rw [c22]; decide) (by rw [c22]; rfl) (by decide) ?_
    refine lv_aload_n hx hb dX5_carryOut_188 rfl (lv_at hl 0 rfl) ?_
    refine vt_getR (r := 1) S hF hP (k := 0) (ci := 5) 0 (hlt _ (by decide)) rfl (by decide) rfl (by decide) rfl rfl (inC_X5 _) (List.mem_cons_of_mem _ fl_X5_12) dX5_carryOut_189 ?_
    refine lv_iload_n hx hb dX5_carryOut_192 rfl (lv_at hl 2 rfl) ?_
    refine lv_iload_n hx hb dX5_carryOut_193 rfl (lv_at hl 3 rfl) ?_
    obtain ⟨q3, hq3, h⟩ := ob h
    refine vu_v hP (vu_V S hF hP (h := 1) (hlt _ (by decide)) rfl (by decide) rfl (c_X0_exchange l P hA hn w x2 x3 hq3) ok_X0_exchange ml_X5_363 ⟨Nat.le_of_ble_eq_true rfl, Nat.le_of_ble_eq_true rfl⟩ rfl hl.1 rfl (Nat.le_of_ble_eq_true rfl) dX5_carryOut_194 ⟨Nat.le_of_ble_eq_true rfl, Nat.le_of_ble_eq_true rfl⟩) (fun H locs hP => ?_)
    refine lv_goto (tgt := 230) hx hb dX5_carryOut_197 (by decide) ?_
    obtain rfl := Option.some.inj h
    exact ve_v S hF hP hr hk dX5_carryOut_230
  rw [if_neg c22] at h
  by_cases c23 : x1 = 116
  · rw [if_pos c23] at h
    refine lv_tableIn (off := 176) (tgt := 177) hx hb dX5_carryOut_1 (by rw [c23]; decide) (by rw [c23]; decide) (by rw [c23]; rfl) (by decide) ?_
    refine lv_aload_n hx hb dX5_carryOut_177 rfl (lv_at hl 0 rfl) ?_
    refine vt_getR (r := 1) S hF hP (k := 0) (ci := 5) 0 (hlt _ (by decide)) rfl (by decide) rfl (by decide) rfl rfl (inC_X5 _) (List.mem_cons_of_mem _ fl_X5_12) dX5_carryOut_178 ?_
    refine lv_iload_n hx hb dX5_carryOut_181 rfl (lv_at hl 2 rfl) ?_
    obtain ⟨q4, hq4, h⟩ := ob h
    refine vu_v hP (vu_V S hF hP (h := 1) (hlt _ (by decide)) rfl (by decide) rfl (c_X0_turnToGoal l P hA hn w x2 hq4) ok_X0_turnToGoal ml_X5_140 ⟨Nat.le_of_ble_eq_true rfl, Nat.le_of_ble_eq_true rfl⟩ rfl hl.1 rfl (Nat.le_of_ble_eq_true rfl) dX5_carryOut_182 ⟨Nat.le_of_ble_eq_true rfl, Nat.le_of_ble_eq_true rfl⟩) (fun H locs hP => ?_)
    refine lv_goto (tgt := 230) hx hb dX5_carryOut_185 (by decide) ?_
    obtain rfl := Option.some.inj h
    exact ve_v S hF hP hr hk dX5_carryOut_230
  rw [if_neg c23] at h
  by_cases c24 : x1 = 117
  · rw [if_pos c24] at h
    refine lv_tableIn (off := 229) (tgt := 230) hx hb dX5_carryOut_1 (by rw [c24]; decide) (by rw [c24]; decide) (by rw [c24]; rfl) (by decide) ?_
    obtain rfl := Option.some.inj h
    exact ve_v S hF hP hr hk dX5_carryOut_230
  rw [if_neg c24] at h
  by_cases c25 : x1 = 118
  · rw [if_pos c25] at h
    refine lv_tableIn (off := 229) (tgt := 230) hx hb dX5_carryOut_1 (by rw [c25]; decide) (by rw [c25]; decide) (by rw [c25]; rfl) (by decide) ?_
    obtain rfl := Option.some.inj h
    exact ve_v S hF hP hr hk dX5_carryOut_230
  rw [if_neg c25] at h
  by_cases c26 : x1 = 119
  · rw [if_pos c26] at h
    refine lv_tableIn (off := 229) (tgt := 230) hx hb dX5_carryOut_1 (by rw [c26]; decide) (by rw [c26]; decide) (by rw [c26]; rfl) (by decide) ?_
    obtain rfl := Option.some.inj h
    exact ve_v S hF hP hr hk dX5_carryOut_230
  rw [if_neg c26] at h
  by_cases c27 : x1 = 120
  · rw [if_pos c27] at h
    refine lv_tableIn (off := 199) (tgt := 200) hx hb dX5_carryOut_1 (by rw [c27]; decide) (by rw [c27]; decide) (by rw [c27]; rfl) (by decide) ?_
    refine lv_aload_n hx hb dX5_carryOut_200 rfl (lv_at hl 0 rfl) ?_
    refine vt_getR (r := 1) S hF hP (k := 0) (ci := 5) 0 (hlt _ (by decide)) rfl (by decide) rfl (by decide) rfl rfl (inC_X5 _) (List.mem_cons_of_mem _ fl_X5_12) dX5_carryOut_201 ?_
    refine lv_dup hx hb dX5_carryOut_204 rfl ?_
    refine vt_getI S hF hP (k := 4) (ci := 0) 1 (hlt _ (by decide)) rfl (by decide) rfl (by decide) rfl (inC_X0 _) (List.mem_cons_of_mem _ fl_X5_366) dX5_carryOut_205 ?_
    refine lv_iconst (v := 1) hx hb dX5_carryOut_208 (by decide) ?_
    refine lv_iload_n hx hb dX5_carryOut_209 rfl (lv_at hl 2 rfl) ?_
    refine lv_ishl hx hb dX5_carryOut_210 ?_
    refine lv_ixor hx hb dX5_carryOut_211 ?_
    refine vt_putI S hF hP (k := 4) (ci := 0) 1 (hlt _ (by decide)) rfl (by decide) rfl (by decide) rfl tyX0 tyX0_ok nmX0 rfl rfl rfl rfl (by decide) (inC_X0 _) (List.mem_cons_of_mem _ fl_X5_366) dX5_carryOut_212 (fun H locs hP => ?_)
    refine lv_goto (tgt := 230) hx hb dX5_carryOut_215 (by decide) ?_
    obtain rfl := Option.some.inj h
    exact ve_v S hF hP hr hk dX5_carryOut_230
  rw [if_neg c27] at h
  refine lv_tableOut (tgt := 230) hx hb dX5_carryOut_1 (sw_out (fun i i1 i2 => ?_)) (by decide) ?_
  · have i3 : i = 98 ∨ i = 99 ∨ i = 100 ∨ i = 101 ∨ i = 102 ∨ i = 103 ∨ i = 104 ∨ i = 105 ∨ i = 106 ∨ i = 107 ∨ i = 108 ∨ i = 109 ∨ i = 110 ∨ i = 111 ∨ i = 112 ∨ i = 113 ∨ i = 114 ∨ i = 115 ∨ i = 116 ∨ i = 117 ∨ i = 118 ∨ i = 119 ∨ i = 120 := by omega
    rcases i3 with rfl | rfl | rfl | rfl | rfl | rfl | rfl | rfl | rfl | rfl | rfl | rfl | rfl | rfl | rfl | rfl | rfl | rfl | rfl | rfl | rfl | rfl | rfl
    · exact c5
    · exact c6
    · exact c7
    · exact c8
    · exact c9
    · exact c10
    · exact c11
    · exact c12
    · exact c13
    · exact c14
    · exact c15
    · exact c16
    · exact c17
    · exact c18
    · exact c19
    · exact c20
    · exact c21
    · exact c22
    · exact c23
    · exact c24
    · exact c25
    · exact c26
    · exact c27
  obtain rfl := Option.some.inj h
  exact ve_v S hF hP hr hk dX5_carryOut_230
set_option maxRecDepth 100000 in
set_option maxHeartbeats 4000000 in
theorem c_X5_change (l : Launch) (P : Pl) (hA : Adr P) (hn : 26 ≤ P.2.2.2.1) (hst : l.stackTraces = false) (w : Wo) (x1 : Int32) (x2 : Int32) (x3 : Int32) {r : (Nat × Wo) ⊕ Wo} (h : F_X5_change w x1 x2 x3 = some r) : CxV l P yX5_change cX5_change 4 none 7 1 [.ref (P.2.1 0), .int x1, .int x2, .int x3] w r := by
  have hlt : ∀ h, h < 26 → h < P.2.2.2.1 := fun h q => Nat.lt_of_lt_of_le q hn
  refine vs_vx hA (by decide +kernel) (Nat.le_of_ble_eq_true rfl) (fun p e s m args below meth c ls S hF hP hl hr hk hxt => ?_)
  have hx := S.1
  have hb := S.2.1
  replace hl : lv_has ls 4 [(0, .ref (P.2.1 0)), (1, .int x1), (2, .int x2), (3, .int x3)] := hl
  unfold F_X5_change at h
  refine lv_aload_n hx hb dX5_change_0 rfl (lv_at hl 0 rfl) ?_
  refine lv_iload_n hx hb dX5_change_1 rfl (lv_at hl 1 rfl) ?_
  refine lv_iload_n hx hb dX5_change_2 rfl (lv_at hl 2 rfl) ?_
  refine lv_iload_n hx hb dX5_change_3 rfl (lv_at hl 3 rfl) ?_
  obtain ⟨q1, hq1, h⟩ := ob h
  refine vu_i hP (vu_V S hF hP (h := 0) (hlt _ (by decide)) rfl (by decide) rfl (c_X5_judge l P hA hn w x1 x2 x3 hq1) ok_X5_judge ml_X5_328 ⟨Nat.le_of_ble_eq_true rfl, Nat.le_of_ble_eq_true rfl⟩ rfl hl.1 rfl (Nat.le_of_ble_eq_true rfl) dX5_change_4 ⟨Nat.le_of_ble_eq_true rfl, Nat.le_of_ble_eq_true rfl⟩) (fun H locs ho2 hP => ?_)
  obtain ⟨q3, hq3, h⟩ := ob h
  refine vu_xv hP (vu_SX S hF hP (c_X5_raise l P hA hn hst q1.2 q1.1 hq3) ok_X5_raise ml_X5_116 ⟨Nat.le_of_ble_eq_true rfl, Nat.le_of_ble_eq_true rfl⟩ rfl hl.1 rfl (Nat.le_of_ble_eq_true rfl) dX5_change_7 ⟨Nat.le_of_ble_eq_true rfl, Nat.le_of_ble_eq_true rfl⟩) (fun H locs u ce q9 ho hP e1 e2 e3 => ?_) (fun H locs uv4 ho hP => ?_)
  · subst ho
    obtain rfl := Option.some.inj h
    exact ve_out hF hP hk hxt e1 e2 e3 (by decide) (by decide)
  · subst ho
    rw [Sum.elim_inr] at h
    refine lv_aload_n hx hb dX5_change_10 rfl (lv_at hl 0 rfl) ?_
    refine vt_getR (r := 4) S hF hP (k := 3) (ci := 5) 0 (hlt _ (by decide)) rfl (by decide) rfl (by decide) rfl rfl (inC_X5 _) (List.mem_cons_of_mem _ fl_X5_25) dX5_change_11 ?_
    refine lv_aload_n hx hb dX5_change_14 rfl (lv_at hl 0 rfl) ?_
    refine vt_getR (r := 1) S hF hP (k := 0) (ci := 5) 0 (hlt _ (by decide)) rfl (by decide) rfl (by decide) rfl rfl (inC_X5 _) (List.mem_cons_of_mem _ fl_X5_12) dX5_change_15 ?_
    obtain ⟨q5, hq5, h⟩ := ob h
    refine vu_v hP (vu_V S hF hP (h := 4) (hlt _ (by decide)) rfl (by decide) rfl (c_X2_keep l P hA hn 1 rfl (by decide) uv4 hq5) ok_X2_keep ml_X5_134 ⟨Nat.le_of_ble_eq_true rfl, Nat.le_of_ble_eq_true rfl⟩ rfl hl.1 rfl (Nat.le_of_ble_eq_true rfl) dX5_change_18 ⟨Nat.le_of_ble_eq_true rfl, Nat.le_of_ble_eq_true rfl⟩) (fun H locs hP => ?_)
    refine lv_aload_n hx hb dX5_change_21 rfl (lv_at hl 0 rfl) ?_
    refine lv_iload_n hx hb dX5_change_22 rfl (lv_at hl 1 rfl) ?_
    refine lv_iload_n hx hb dX5_change_23 rfl (lv_at hl 2 rfl) ?_
    refine lv_iload_n hx hb dX5_change_24 rfl (lv_at hl 3 rfl) ?_
    obtain ⟨q6, hq6, h⟩ := ob h
    refine vu_v hP (vu_V S hF hP (h := 0) (hlt _ (by decide)) rfl (by decide) rfl (c_X5_carryOut l P hA hn q5 x1 x2 x3 hq6) ok_X5_carryOut ml_X5_331 ⟨Nat.le_of_ble_eq_true rfl, Nat.le_of_ble_eq_true rfl⟩ rfl hl.1 rfl (Nat.le_of_ble_eq_true rfl) dX5_change_25 ⟨Nat.le_of_ble_eq_true rfl, Nat.le_of_ble_eq_true rfl⟩) (fun H locs hP => ?_)
    obtain rfl := Option.some.inj h
    exact ve_xv S hF hP hr hk (by decide) (by decide) dX5_change_28
set_option maxRecDepth 100000 in
set_option maxHeartbeats 4000000 in
theorem c_X5_board (l : Launch) (P : Pl) (hA : Adr P) (hn : 26 ≤ P.2.2.2.1) (hst : l.stackTraces = false) (w : Wo) (x1 : Int32) (x2 : Int32) {r : (Nat × Wo) ⊕ (Int32 × Wo)} (h : F_X5_board w x1 x2 = some r) : CxI l P yX5_board cX5_board 3 (some .int) 8 1 [.ref (P.2.1 0), .int x1, .int x2] w r := by
  have hlt : ∀ h, h < 26 → h < P.2.2.2.1 := fun h q => Nat.lt_of_lt_of_le q hn
  refine vs_vx hA (by decide +kernel) (Nat.le_of_ble_eq_true rfl) (fun p e s m args below meth c ls S hF hP hl hr hk hxt => ?_)
  have hx := S.1
  have hb := S.2.1
  replace hl : lv_has ls 3 [(0, .ref (P.2.1 0)), (1, .int x1), (2, .int x2)] := hl
  unfold F_X5_board at h
  refine lv_aload_n hx hb dX5_board_0 rfl (lv_at hl 0 rfl) ?_
  refine lv_bipush (v := 98) hx hb dX5_board_1 (by decide) ?_
  refine lv_iload_n hx hb dX5_board_3 rfl (lv_at hl 1 rfl) ?_
  refine lv_iload_n hx hb dX5_board_4 rfl (lv_at hl 2 rfl) ?_
  obtain ⟨q1, hq1, h⟩ := ob h
  refine vu_xv hP (vu_VX S hF hP (h := 0) (hlt _ (by decide)) rfl (by decide) rfl (c_X5_change l P hA hn hst w 98 x1 x2 hq1) ok_X5_change ml_X5_75 ⟨Nat.le_of_ble_eq_true rfl, Nat.le_of_ble_eq_true rfl⟩ rfl hl.1 rfl (Nat.le_of_ble_eq_true rfl) dX5_board_5 ⟨Nat.le_of_ble_eq_true rfl, Nat.le_of_ble_eq_true rfl⟩) (fun H locs u ce q9 ho hP e1 e2 e3 => ?_) (fun H locs uv2 ho hP => ?_)
  · subst ho
    obtain rfl := Option.some.inj h
    exact ve_out hF hP hk hxt e1 e2 e3 (by decide) (by decide)
  · subst ho
    rw [Sum.elim_inr] at h
    refine lv_aload_n hx hb dX5_board_8 rfl (lv_at hl 0 rfl) ?_
    refine vt_getR (r := 1) S hF hP (k := 0) (ci := 5) 0 (hlt _ (by decide)) rfl (by decide) rfl (by decide) rfl rfl (inC_X5 _) (List.mem_cons_of_mem _ fl_X5_12) dX5_board_9 ?_
    refine vu_i hP (vu_V S hF hP (h := 1) (hlt _ (by decide)) rfl (by decide) rfl (c_X0_places l P hA hn uv2) ok_X0_places ml_X5_79 ⟨Nat.le_of_ble_eq_true rfl, Nat.le_of_ble_eq_true rfl⟩ rfl hl.1 rfl (Nat.le_of_ble_eq_true rfl) dX5_board_12 ⟨Nat.le_of_ble_eq_true rfl, Nat.le_of_ble_eq_true rfl⟩) (fun H locs ho3 hP => ?_)
    obtain rfl := Option.some.inj h
    exact ve_xi (v := (F_X0_places uv2)) S hF hP hr hk rfl (by decide) (by decide) dX5_board_15
set_option maxRecDepth 100000 in
set_option maxHeartbeats 4000000 in
theorem c_X5_codeOf (l : Launch) (P : Pl) (hA : Adr P) (hn : 26 ≤ P.2.2.2.1) (w : Wo) (x0 : Int32) : CtI l P yX5_codeOf cX5_codeOf 1 (some .int) 0 [.int x0] w (F_X5_codeOf x0) w := by
  have hlt : ∀ h, h < 26 → h < P.2.2.2.1 := fun h q => Nat.lt_of_lt_of_le q hn
  obtain ⟨r, h⟩ : ∃ r, F_X5_codeOf x0 = r := ⟨_, rfl⟩
  rw [h]
  refine vs_met hA (by decide +kernel) (Nat.le_of_ble_eq_true rfl) (fun p e s m args below meth c ls S hF hP hl hr hk => ?_)
  have hx := S.1
  have hb := S.2.1
  replace hl : lv_has ls 1 [(0, .int x0)] := hl
  unfold F_X5_codeOf at h
  refine lv_iload_n hx hb dX5_codeOf_0 rfl (lv_at hl 0 rfl) ?_
  refine lv_bipush (v := 46) hx hb dX5_codeOf_1 (by decide) ?_
  refine lv_icmp_ne (tgt := 9) hx hb dX5_codeOf_3 (by decide) (fun c1 => ?_) (fun c1 => ?_)
  · rw [if_neg c1] at h
    refine lv_iload_n hx hb dX5_codeOf_9 rfl (lv_at hl 0 rfl) ?_
    refine lv_bipush (v := 97) hx hb dX5_codeOf_10 (by decide) ?_
    refine lv_icmp_lt (tgt := 28) hx hb dX5_codeOf_12 (by decide) (fun c2 => ?_) (fun c2 => ?_)
    · rw [if_pos c2] at h
      refine lv_iconst (v := (-1)) hx hb dX5_codeOf_28 (by decide) ?_
      subst h
      exact ve_i (v := (-1)) S hF hP hr hk rfl dX5_codeOf_29
    · rw [if_neg c2] at h
      refine lv_iload_n hx hb dX5_codeOf_15 rfl (lv_at hl 0 rfl) ?_
      refine lv_bipush (v := 108) hx hb dX5_codeOf_16 (by decide) ?_
      refine lv_icmp_gt (tgt := 28) hx hb dX5_codeOf_18 (by decide) (fun c3 => ?_) (fun c3 => ?_)
      · rw [if_pos c3] at h
        refine lv_iconst (v := (-1)) hx hb dX5_codeOf_28 (by decide) ?_
        subst h
        exact ve_i (v := (-1)) S hF hP hr hk rfl dX5_codeOf_29
      · rw [if_neg c3] at h
        refine lv_iload_n hx hb dX5_codeOf_21 rfl (lv_at hl 0 rfl) ?_
        refine lv_bipush (v := 97) hx hb dX5_codeOf_22 (by decide) ?_
        refine lv_isub hx hb dX5_codeOf_24 ?_
        refine lv_goto (tgt := 29) hx hb dX5_codeOf_25 (by decide) ?_
        subst h
        exact ve_i (v := (x0 - (97 : Int32))) S hF hP hr hk rfl dX5_codeOf_29
  · rw [if_pos c1] at h
    refine lv_bipush (v := 12) hx hb dX5_codeOf_6 (by decide) ?_
    subst h
    exact ve_i (v := 12) S hF hP hr hk rfl dX5_codeOf_8
set_option maxRecDepth 100000 in
set_option maxHeartbeats 4000000 in
theorem c_X5_signOf (l : Launch) (P : Pl) (hA : Adr P) (hn : 26 ≤ P.2.2.2.1) (w : Wo) (x0 : Int32) : CtI l P yX5_signOf cX5_signOf 1 (some .char) 0 [.int x0] w (F_X5_signOf x0) w := by
  have hlt : ∀ h, h < 26 → h < P.2.2.2.1 := fun h q => Nat.lt_of_lt_of_le q hn
  obtain ⟨r, h⟩ : ∃ r, F_X5_signOf x0 = r := ⟨_, rfl⟩
  rw [h]
  refine vs_met hA (by decide +kernel) (Nat.le_of_ble_eq_true rfl) (fun p e s m args below meth c ls S hF hP hl hr hk => ?_)
  have hx := S.1
  have hb := S.2.1
  replace hl : lv_has ls 1 [(0, .int x0)] := hl
  unfold F_X5_signOf at h
  refine lv_iload_n hx hb dX5_signOf_0 rfl (lv_at hl 0 rfl) ?_
  refine lv_bipush (v := 12) hx hb dX5_signOf_1 (by decide) ?_
  refine lv_icmp_ne (tgt := 11) hx hb dX5_signOf_3 (by decide) (fun c1 => ?_) (fun c1 => ?_)
  · rw [if_neg c1] at h
    refine lv_bipush (v := 97) hx hb dX5_signOf_11 (by decide) ?_
    refine lv_iload_n hx hb dX5_signOf_13 rfl (lv_at hl 0 rfl) ?_
    refine lv_iadd hx hb dX5_signOf_14 ?_
    refine lv_i2c hx hb dX5_signOf_15 rfl ?_
    subst h
    exact ve_i (v := (ji2c ((97 : Int32) + x0))) S hF hP hr hk (pk_nc _) dX5_signOf_16
  · rw [if_pos c1] at h
    refine lv_bipush (v := 46) hx hb dX5_signOf_6 (by decide) ?_
    refine lv_goto (tgt := 16) hx hb dX5_signOf_8 (by decide) ?_
    subst h
    exact ve_i (v := 46) S hF hP hr hk rfl dX5_signOf_16
set_option maxRecDepth 100000 in
set_option maxHeartbeats 4000000 in
theorem c_X5_put (l : Launch) (P : Pl) (hA : Adr P) (hn : 26 ≤ P.2.2.2.1) (hst : l.stackTraces = false) (w : Wo) (x1 : Int32) (x2 : Int32) {r : (Nat × Wo) ⊕ (Int32 × Wo)} (h : F_X5_put w x1 x2 = some r) : CxI l P yX5_put cX5_put 5 (some .char) 8 1 [.ref (P.2.1 0), .int x1, .int x2] w r := by
  have hlt : ∀ h, h < 26 → h < P.2.2.2.1 := fun h q => Nat.lt_of_lt_of_le q hn
  refine vs_vx hA (by decide +kernel) (Nat.le_of_ble_eq_true rfl) (fun p e s m args below meth c ls S hF hP hl hr hk hxt => ?_)
  have hx := S.1
  have hb := S.2.1
  replace hl : lv_has ls 5 [(0, .ref (P.2.1 0)), (1, .int x1), (2, .int x2)] := hl
  unfold F_X5_put at h
  refine lv_aload_n hx hb dX5_put_0 rfl (lv_at hl 0 rfl) ?_
  refine vt_getR (r := 1) S hF hP (k := 0) (ci := 5) 0 (hlt _ (by decide)) rfl (by decide) rfl (by decide) rfl rfl (inC_X5 _) (List.mem_cons_of_mem _ fl_X5_12) dX5_put_1 ?_
  refine vt_getL S hF hP (k := 2) (ci := 0) 1 (hlt _ (by decide)) rfl (by decide) rfl (by decide) rfl (inC_X0 _) (List.mem_cons_of_mem _ fl_X5_83) dX5_put_4 ?_
  refine lv_lstore_n (lv' := [(3, .long (gL w 1 2)), (0, .ref (P.2.1 0)), (1, .int x1), (2, .int x2)]) hx hb dX5_put_7 rfl hl (by decide) rfl (fun ls hl => ?_)
  refine lv_aload_n hx hb dX5_put_8 rfl (lv_at hl 1 rfl) ?_
  refine lv_bipush (v := 112) hx hb dX5_put_9 (by decide) ?_
  refine lv_iload_n hx hb dX5_put_11 rfl (lv_at hl 2 rfl) ?_
  refine lv_iload_n hx hb dX5_put_12 rfl (lv_at hl 3 rfl) ?_
  refine vu_i hP (vu_S S hF hP (c_X5_codeOf l P hA hn w x2) ok_X5_codeOf ml_X5_87 ⟨Nat.le_of_ble_eq_true rfl, Nat.le_of_ble_eq_true rfl⟩ rfl hl.1 rfl (Nat.le_of_ble_eq_true rfl) dX5_put_13 ⟨Nat.le_of_ble_eq_true rfl, Nat.le_of_ble_eq_true rfl⟩) (fun H locs ho1 hP => ?_)
  obtain ⟨q2, hq2, h⟩ := ob h
  refine vu_xv hP (vu_VX S hF hP (h := 0) (hlt _ (by decide)) rfl (by decide) rfl (c_X5_change l P hA hn hst w 112 x1 (F_X5_codeOf x2) hq2) ok_X5_change ml_X5_75 ⟨Nat.le_of_ble_eq_true rfl, Nat.le_of_ble_eq_true rfl⟩ rfl hl.1 rfl (Nat.le_of_ble_eq_true rfl) dX5_put_16 ⟨Nat.le_of_ble_eq_true rfl, Nat.le_of_ble_eq_true rfl⟩) (fun H locs u ce q9 ho hP e1 e2 e3 => ?_) (fun H locs uv3 ho hP => ?_)
  · subst ho
    obtain rfl := Option.some.inj h
    exact ve_out hF hP hk hxt e1 e2 e3 (by decide) (by decide)
  · subst ho
    rw [Sum.elim_inr] at h
    refine lv_lload_n hx hb dX5_put_19 rfl (lv_at hl 0 rfl) ?_
    refine lv_iload_n hx hb dX5_put_20 rfl (lv_at hl 2 rfl) ?_
    refine vu_i hP (vu_S S hF hP (c_X5_codeAt l P hA hn uv3 (gL w 1 2) x1) ok_X5_codeAt ml_X5_91 ⟨Nat.le_of_ble_eq_true rfl, Nat.le_of_ble_eq_true rfl⟩ rfl hl.1 rfl (Nat.le_of_ble_eq_true rfl) dX5_put_21 ⟨Nat.le_of_ble_eq_true rfl, Nat.le_of_ble_eq_true rfl⟩) (fun H locs ho4 hP => ?_)
    refine vu_i hP (vu_S S hF hP (c_X5_signOf l P hA hn uv3 (F_X5_codeAt (gL w 1 2) x1)) ok_X5_signOf ml_X5_95 ⟨Nat.le_of_ble_eq_true rfl, Nat.le_of_ble_eq_true rfl⟩ rfl hl.1 rfl (Nat.le_of_ble_eq_true rfl) dX5_put_24 ⟨Nat.le_of_ble_eq_true rfl, Nat.le_of_ble_eq_true rfl⟩) (fun H locs ho5 hP => ?_)
    obtain rfl := Option.some.inj h
    exact ve_xi (v := (F_X5_signOf (F_X5_codeAt (gL w 1 2) x1))) S hF hP hr hk ho5 (by decide) (by decide) dX5_put_27
set_option maxRecDepth 100000 in
set_option maxHeartbeats 4000000 in
theorem c_X5_goal (l : Launch) (P : Pl) (hA : Adr P) (hn : 26 ≤ P.2.2.2.1) (hst : l.stackTraces = false) (w : Wo) (x1 : Int32) (x2 : Int32) {r : (Nat × Wo) ⊕ (Int32 × Wo)} (h : F_X5_goal w x1 x2 = some r) : CxI l P yX5_goal cX5_goal 5 (some .char) 8 1 [.ref (P.2.1 0), .int x1, .int x2] w r := by
  have hlt : ∀ h, h < 26 → h < P.2.2.2.1 := fun h q => Nat.lt_of_lt_of_le q hn
  refine vs_vx hA (by decide +kernel) (Nat.le_of_ble_eq_true rfl) (fun p e s m args below meth c ls S hF hP hl hr hk hxt => ?_)
  have hx := S.1
  have hb := S.2.1
  replace hl : lv_has ls 5 [(0, .ref (P.2.1 0)), (1, .int x1), (2, .int x2)] := hl
  unfold F_X5_goal at h
  refine lv_aload_n hx hb dX5_goal_0 rfl (lv_at hl 0 rfl) ?_
  refine vt_getR (r := 1) S hF hP (k := 0) (ci := 5) 0 (hlt _ (by decide)) rfl (by decide) rfl (by decide) rfl rfl (inC_X5 _) (List.mem_cons_of_mem _ fl_X5_12) dX5_goal_1 ?_
  refine vt_getL S hF hP (k := 3) (ci := 0) 1 (hlt _ (by decide)) rfl (by decide) rfl (by decide) rfl (inC_X0 _) (List.mem_cons_of_mem _ fl_X5_99) dX5_goal_4 ?_
  refine lv_lstore_n (lv' := [(3, .long (gL w 1 3)), (0, .ref (P.2.1 0)), (1, .int x1), (2, .int x2)]) hx hb dX5_goal_7 rfl hl (by decide) rfl (fun ls hl => ?_)
  refine lv_aload_n hx hb dX5_goal_8 rfl (lv_at hl 1 rfl) ?_
  refine lv_bipush (v := 103) hx hb dX5_goal_9 (by decide) ?_
  refine lv_iload_n hx hb dX5_goal_11 rfl (lv_at hl 2 rfl) ?_
  refine lv_iload_n hx hb dX5_goal_12 rfl (lv_at hl 3 rfl) ?_
  refine vu_i hP (vu_S S hF hP (c_X5_codeOf l P hA hn w x2) ok_X5_codeOf ml_X5_87 ⟨Nat.le_of_ble_eq_true rfl, Nat.le_of_ble_eq_true rfl⟩ rfl hl.1 rfl (Nat.le_of_ble_eq_true rfl) dX5_goal_13 ⟨Nat.le_of_ble_eq_true rfl, Nat.le_of_ble_eq_true rfl⟩) (fun H locs ho1 hP => ?_)
  obtain ⟨q2, hq2, h⟩ := ob h
  refine vu_xv hP (vu_VX S hF hP (h := 0) (hlt _ (by decide)) rfl (by decide) rfl (c_X5_change l P hA hn hst w 103 x1 (F_X5_codeOf x2) hq2) ok_X5_change ml_X5_75 ⟨Nat.le_of_ble_eq_true rfl, Nat.le_of_ble_eq_true rfl⟩ rfl hl.1 rfl (Nat.le_of_ble_eq_true rfl) dX5_goal_16 ⟨Nat.le_of_ble_eq_true rfl, Nat.le_of_ble_eq_true rfl⟩) (fun H locs u ce q9 ho hP e1 e2 e3 => ?_) (fun H locs uv3 ho hP => ?_)
  · subst ho
    obtain rfl := Option.some.inj h
    exact ve_out hF hP hk hxt e1 e2 e3 (by decide) (by decide)
  · subst ho
    rw [Sum.elim_inr] at h
    refine lv_lload_n hx hb dX5_goal_19 rfl (lv_at hl 0 rfl) ?_
    refine lv_iload_n hx hb dX5_goal_20 rfl (lv_at hl 2 rfl) ?_
    refine vu_i hP (vu_S S hF hP (c_X5_codeAt l P hA hn uv3 (gL w 1 3) x1) ok_X5_codeAt ml_X5_91 ⟨Nat.le_of_ble_eq_true rfl, Nat.le_of_ble_eq_true rfl⟩ rfl hl.1 rfl (Nat.le_of_ble_eq_true rfl) dX5_goal_21 ⟨Nat.le_of_ble_eq_true rfl, Nat.le_of_ble_eq_true rfl⟩) (fun H locs ho4 hP => ?_)
    refine vu_i hP (vu_S S hF hP (c_X5_signOf l P hA hn uv3 (F_X5_codeAt (gL w 1 3) x1)) ok_X5_signOf ml_X5_95 ⟨Nat.le_of_ble_eq_true rfl, Nat.le_of_ble_eq_true rfl⟩ rfl hl.1 rfl (Nat.le_of_ble_eq_true rfl) dX5_goal_24 ⟨Nat.le_of_ble_eq_true rfl, Nat.le_of_ble_eq_true rfl⟩) (fun H locs ho5 hP => ?_)
    obtain rfl := Option.some.inj h
    exact ve_xi (v := (F_X5_signOf (F_X5_codeAt (gL w 1 3) x1))) S hF hP hr hk ho5 (by decide) (by decide) dX5_goal_27
set_option maxRecDepth 100000 in
set_option maxHeartbeats 4000000 in
theorem c_X0_atHome (l : Launch) (P : Pl) (hA : Adr P) (hn : 26 ≤ P.2.2.2.1) (w : Wo) (x1 : Int64) {r : Int32} (h : F_X0_atHome w x1 = some r) : CtI l P yX0_atHome cX0_atHome 6 (some .int) 1 [.ref (P.2.1 1), .long x1] w r w := by
  have hlt : ∀ h, h < 26 → h < P.2.2.2.1 := fun h q => Nat.lt_of_lt_of_le q hn
  refine vs_met hA (by decide +kernel) (Nat.le_of_ble_eq_true rfl) (fun p e s m args below meth c ls S hF hP hl hr hk => ?_)
  have hx := S.1
  have hb := S.2.1
  replace hl : lv_has ls 6 [(0, .ref (P.2.1 1)), (1, .long x1)] := hl
  have hL5 : ∀ (x1 : Int64) (n : Nat) (x3 : Int32) (x4 : Int32), jl2 (B_X0_atHome_5 w x1) n x3 x4 = some r → ∀ (H : Heap) (locs : List Loc) (ls : Array Slot), St P s w H locs → lv_has ls 6 [(0, .ref (P.2.1 1)), (1, .long x1), (3, .int x3), (4, .int x4)] → W p l e (rmU 1 0 0) s m args below meth c H locs 0 0 (QI P (some .int) r w below args s) (F0 m 5 ls []) := by
    intro x1
    intro n
    induction n with
    | zero =>
      intro x3 x4 h
      cases h
    | succ n ih5 =>
      intro x3 x4 h H locs ls hP hl
      replace h : B_X0_atHome_5 w x1 (jl2 (B_X0_atHome_5 w x1) n) x3 x4 = some r := h
      revert h ih5
      generalize jl2 (B_X0_atHome_5 w x1) n = k5
      intro ih5 h
      have hB46 : ∀ (x3 : Int32) (x4 : Int32), B_X0_atHome_46 k5 w x1 x3 x4 = some r → ∀ (H : Heap) (locs : List Loc) (ls : Array Slot), St P s w H locs → lv_has ls 6 [(0, .ref (P.2.1 1)), (1, .long x1), (3, .int x3), (4, .int x4)] → W p l e (rmU 1 0 0) s m args below meth c H locs 0 0 (QI P (some .int) r w below args s) (F0 m 46 ls []) := by
        intro x3 x4 h H locs ls hP hl
        unfold B_X0_atHome_46 at h
        refine lv_iinc (v := (x4 + 1)) (lv' := [(4, .int (x4 + 1)), (0, .ref (P.2.1 1)), (1, .long x1), (3, .int x3)]) hx hb dX0_atHome_46 hl (k := 3) rfl rfl (by decide) rfl (fun ls hl => ?_)
        refine lv_goto (tgt := 5) hx hb dX0_atHome_49 (by decide) ?_
        exact ih5 _ _ h _ _ _ hP (lv_sub hl [1, 2, 3, 0] rfl)
      have hB43 : ∀ (x3 : Int32) (x4 : Int32), B_X0_atHome_43 k5 w x1 x3 x4 = some r → ∀ (H : Heap) (locs : List Loc) (ls : Array Slot), St P s w H locs → lv_has ls 6 [(0, .ref (P.2.1 1)), (1, .long x1), (3, .int x3), (4, .int x4)] → W p l e (rmU 1 0 0) s m args below meth c H locs 0 0 (QI P (some .int) r w below args s) (F0 m 43 ls []) := by
        intro x3 x4 h H locs ls hP hl
        unfold B_X0_atHome_43 at h
        refine lv_iinc (v := (x3 + 1)) (lv' := [(3, .int (x3 + 1)), (0, .ref (P.2.1 1)), (1, .long x1), (4, .int x4)]) hx hb dX0_atHome_43 hl (k := 2) rfl rfl (by decide) rfl (fun ls hl => ?_)
        exact hB46 _ _ h _ _ _ hP (lv_sub hl [1, 2, 0, 3] rfl)
      unfold B_X0_atHome_5 at h
      refine lv_iload hx hb dX0_atHome_5 (lv_at hl 3 rfl) ?_
      refine lv_aload_n hx hb dX0_atHome_7 rfl (lv_at hl 0 rfl) ?_
      refine vu_i hP (vu_V S hF hP (h := 1) (hlt _ (by decide)) rfl (by decide) rfl (c_X0_places l P hA hn w) ok_X0_places ml_X0_46 ⟨Nat.le_of_ble_eq_true rfl, Nat.le_of_ble_eq_true rfl⟩ rfl hl.1 rfl (Nat.le_of_ble_eq_true rfl) dX0_atHome_8 ⟨Nat.le_of_ble_eq_true rfl, Nat.le_of_ble_eq_true rfl⟩) (fun H locs ho1 hP => ?_)
      refine lv_icmp_ge (tgt := 52) hx hb dX0_atHome_11 (by decide) (fun c4 => ?_) (fun c4 => ?_)
      · rw [if_pos c4] at h
        refine lv_iload_n hx hb dX0_atHome_52 rfl (lv_at hl 2 rfl) ?_
        obtain rfl := Option.some.inj h
        exact ve_i (v := x3) S hF hP hr hk rfl dX0_atHome_53
      · rw [if_neg c4] at h
        refine lv_aload_n hx hb dX0_atHome_14 rfl (lv_at hl 0 rfl) ?_
        refine vt_getL S hF hP (k := 3) (ci := 0) 1 (hlt _ (by decide)) rfl (by decide) rfl (by decide) rfl (inC_X0 _) (List.mem_cons_of_mem _ fl_X0_22) dX0_atHome_15 ?_
        refine lv_iload hx hb dX0_atHome_18 (lv_at hl 3 rfl) ?_
        refine vu_i hP (vu_SN S hF hP (host := RX5) (c_X5_codeAt l P hA hn w (gL w 1 3) x4) ok_X5_codeAt (by decide +kernel) ⟨Nat.le_of_ble_eq_true rfl, Nat.le_of_ble_eq_true rfl⟩ rfl hl.1 rfl (Nat.le_of_ble_eq_true rfl) dX0_atHome_20 ⟨Nat.le_of_ble_eq_true rfl, Nat.le_of_ble_eq_true rfl⟩) (fun H locs ho2 hP => ?_)
        refine lv_istore (lv' := [(5, .int (F_X5_codeAt (gL w 1 3) x4)), (0, .ref (P.2.1 1)), (1, .long x1), (3, .int x3), (4, .int x4)]) hx hb dX0_atHome_23 hl (by decide) rfl (fun ls hl => ?_)
        refine lv_iload hx hb dX0_atHome_25 (lv_at hl 0 rfl) ?_
        refine lv_bipush (v := 12) hx hb dX0_atHome_27 (by decide) ?_
        refine lv_icmp_eq (tgt := 43) hx hb dX0_atHome_29 (by decide) (fun c5 => ?_) (fun c5 => ?_)
        · rw [if_pos c5] at h
          exact hB43 _ _ h _ _ _ hP (lv_sub hl [1, 2, 3, 4] rfl)
        · rw [if_neg c5] at h
          refine lv_iload hx hb dX0_atHome_32 (lv_at hl 0 rfl) ?_
          refine lv_lload_n hx hb dX0_atHome_34 rfl (lv_at hl 2 rfl) ?_
          refine lv_iload hx hb dX0_atHome_35 (lv_at hl 4 rfl) ?_
          refine vu_i hP (vu_SN S hF hP (host := RX5) (c_X5_codeAt l P hA hn w x1 x4) ok_X5_codeAt (by decide +kernel) ⟨Nat.le_of_ble_eq_true rfl, Nat.le_of_ble_eq_true rfl⟩ rfl hl.1 rfl (Nat.le_of_ble_eq_true rfl) dX0_atHome_37 ⟨Nat.le_of_ble_eq_true rfl, Nat.le_of_ble_eq_true rfl⟩) (fun H locs ho3 hP => ?_)
          refine lv_icmp_ne (tgt := 46) hx hb dX0_atHome_40 (by decide) (fun c6 => ?_) (fun c6 => ?_)
          · rw [if_neg c6] at h
            exact hB46 _ _ h _ _ _ hP (lv_sub hl [1, 2, 3, 4] rfl)
          · rw [if_pos c6] at h
            exact hB43 _ _ h _ _ _ hP (lv_sub hl [1, 2, 3, 4] rfl)
  unfold F_X0_atHome at h
  refine lv_iconst (v := 0) hx hb dX0_atHome_0 (by decide) ?_
  refine lv_istore_n (lv' := [(3, .int 0), (0, .ref (P.2.1 1)), (1, .long x1)]) hx hb dX0_atHome_1 rfl hl (by decide) rfl (fun ls hl => ?_)
  refine lv_iconst (v := 0) hx hb dX0_atHome_2 (by decide) ?_
  refine lv_istore (lv' := [(4, .int 0), (3, .int 0), (0, .ref (P.2.1 1)), (1, .long x1)]) hx hb dX0_atHome_3 hl (by decide) rfl (fun ls hl => ?_)
  exact hL5 _ fu _ _ h _ _ _ hP (lv_sub hl [2, 3, 1, 0] rfl)
set_option maxRecDepth 100000 in
set_option maxHeartbeats 4000000 in
theorem c_X5_turn (l : Launch) (P : Pl) (hA : Adr P) (hn : 26 ≤ P.2.2.2.1) (hst : l.stackTraces = false) (w : Wo) (x1 : Int32) {r : (Nat × Wo) ⊕ (Int32 × Wo)} (h : F_X5_turn w x1 = some r) : CxI l P yX5_turn cX5_turn 2 (some .int) 8 1 [.ref (P.2.1 0), .int x1] w r := by
  have hlt : ∀ h, h < 26 → h < P.2.2.2.1 := fun h q => Nat.lt_of_lt_of_le q hn
  refine vs_vx hA (by decide +kernel) (Nat.le_of_ble_eq_true rfl) (fun p e s m args below meth c ls S hF hP hl hr hk hxt => ?_)
  have hx := S.1
  have hb := S.2.1
  replace hl : lv_has ls 2 [(0, .ref (P.2.1 0)), (1, .int x1)] := hl
  unfold F_X5_turn at h
  refine lv_aload_n hx hb dX5_turn_0 rfl (lv_at hl 0 rfl) ?_
  refine lv_bipush (v := 116) hx hb dX5_turn_1 (by decide) ?_
  refine lv_iload_n hx hb dX5_turn_3 rfl (lv_at hl 1 rfl) ?_
  refine lv_iconst (v := 0) hx hb dX5_turn_4 (by decide) ?_
  obtain ⟨q1, hq1, h⟩ := ob h
  refine vu_xv hP (vu_VX S hF hP (h := 0) (hlt _ (by decide)) rfl (by decide) rfl (c_X5_change l P hA hn hst w 116 x1 0 hq1) ok_X5_change ml_X5_75 ⟨Nat.le_of_ble_eq_true rfl, Nat.le_of_ble_eq_true rfl⟩ rfl hl.1 rfl (Nat.le_of_ble_eq_true rfl) dX5_turn_5 ⟨Nat.le_of_ble_eq_true rfl, Nat.le_of_ble_eq_true rfl⟩) (fun H locs u ce q9 ho hP e1 e2 e3 => ?_) (fun H locs uv2 ho hP => ?_)
  · subst ho
    obtain rfl := Option.some.inj h
    exact ve_out hF hP hk hxt e1 e2 e3 (by decide) (by decide)
  · subst ho
    rw [Sum.elim_inr] at h
    refine lv_aload_n hx hb dX5_turn_8 rfl (lv_at hl 0 rfl) ?_
    refine vt_getR (r := 1) S hF hP (k := 0) (ci := 5) 0 (hlt _ (by decide)) rfl (by decide) rfl (by decide) rfl rfl (inC_X5 _) (List.mem_cons_of_mem _ fl_X5_12) dX5_turn_9 ?_
    refine lv_aload_n hx hb dX5_turn_12 rfl (lv_at hl 0 rfl) ?_
    refine vt_getR (r := 1) S hF hP (k := 0) (ci := 5) 0 (hlt _ (by decide)) rfl (by decide) rfl (by decide) rfl rfl (inC_X5 _) (List.mem_cons_of_mem _ fl_X5_12) dX5_turn_13 ?_
    refine vt_getL S hF hP (k := 2) (ci := 0) 1 (hlt _ (by decide)) rfl (by decide) rfl (by decide) rfl (inC_X0 _) (List.mem_cons_of_mem _ fl_X5_83) dX5_turn_16 ?_
    obtain ⟨q3, hq3, h⟩ := ob h
    refine vu_i hP (vu_V S hF hP (h := 1) (hlt _ (by decide)) rfl (by decide) rfl (c_X0_atHome l P hA hn uv2 (gL uv2 1 2) hq3) ok_X0_atHome ml_X5_102 ⟨Nat.le_of_ble_eq_true rfl, Nat.le_of_ble_eq_true rfl⟩ rfl hl.1 rfl (Nat.le_of_ble_eq_true rfl) dX5_turn_19 ⟨Nat.le_of_ble_eq_true rfl, Nat.le_of_ble_eq_true rfl⟩) (fun H locs ho4 hP => ?_)
    obtain rfl := Option.some.inj h
    exact ve_xi (v := q3) S hF hP hr hk rfl (by decide) (by decide) dX5_turn_22
set_option maxRecDepth 100000 in
set_option maxHeartbeats 4000000 in
theorem c_X5_swap (l : Launch) (P : Pl) (hA : Adr P) (hn : 26 ≤ P.2.2.2.1) (hst : l.stackTraces = false) (w : Wo) (x1 : Int32) (x2 : Int32) {r : (Nat × Wo) ⊕ (Int32 × Wo)} (h : F_X5_swap w x1 x2 = some r) : CxI l P yX5_swap cX5_swap 3 (some .int) 8 1 [.ref (P.2.1 0), .int x1, .int x2] w r := by
  have hlt : ∀ h, h < 26 → h < P.2.2.2.1 := fun h q => Nat.lt_of_lt_of_le q hn
  refine vs_vx hA (by decide +kernel) (Nat.le_of_ble_eq_true rfl) (fun p e s m args below meth c ls S hF hP hl hr hk hxt => ?_)
  have hx := S.1
  have hb := S.2.1
  replace hl : lv_has ls 3 [(0, .ref (P.2.1 0)), (1, .int x1), (2, .int x2)] := hl
  unfold F_X5_swap at h
  refine lv_aload_n hx hb dX5_swap_0 rfl (lv_at hl 0 rfl) ?_
  refine lv_bipush (v := 115) hx hb dX5_swap_1 (by decide) ?_
  refine lv_iload_n hx hb dX5_swap_3 rfl (lv_at hl 1 rfl) ?_
  refine lv_iload_n hx hb dX5_swap_4 rfl (lv_at hl 2 rfl) ?_
  obtain ⟨q1, hq1, h⟩ := ob h
  refine vu_xv hP (vu_VX S hF hP (h := 0) (hlt _ (by decide)) rfl (by decide) rfl (c_X5_change l P hA hn hst w 115 x1 x2 hq1) ok_X5_change ml_X5_75 ⟨Nat.le_of_ble_eq_true rfl, Nat.le_of_ble_eq_true rfl⟩ rfl hl.1 rfl (Nat.le_of_ble_eq_true rfl) dX5_swap_5 ⟨Nat.le_of_ble_eq_true rfl, Nat.le_of_ble_eq_true rfl⟩) (fun H locs u ce q9 ho hP e1 e2 e3 => ?_) (fun H locs uv2 ho hP => ?_)
  · subst ho
    obtain rfl := Option.some.inj h
    exact ve_out hF hP hk hxt e1 e2 e3 (by decide) (by decide)
  · subst ho
    rw [Sum.elim_inr] at h
    refine lv_aload_n hx hb dX5_swap_8 rfl (lv_at hl 0 rfl) ?_
    refine vt_getR (r := 1) S hF hP (k := 0) (ci := 5) 0 (hlt _ (by decide)) rfl (by decide) rfl (by decide) rfl rfl (inC_X5 _) (List.mem_cons_of_mem _ fl_X5_12) dX5_swap_9 ?_
    refine lv_aload_n hx hb dX5_swap_12 rfl (lv_at hl 0 rfl) ?_
    refine vt_getR (r := 1) S hF hP (k := 0) (ci := 5) 0 (hlt _ (by decide)) rfl (by decide) rfl (by decide) rfl rfl (inC_X5 _) (List.mem_cons_of_mem _ fl_X5_12) dX5_swap_13 ?_
    refine vt_getL S hF hP (k := 2) (ci := 0) 1 (hlt _ (by decide)) rfl (by decide) rfl (by decide) rfl (inC_X0 _) (List.mem_cons_of_mem _ fl_X5_83) dX5_swap_16 ?_
    obtain ⟨q3, hq3, h⟩ := ob h
    refine vu_i hP (vu_V S hF hP (h := 1) (hlt _ (by decide)) rfl (by decide) rfl (c_X0_atHome l P hA hn uv2 (gL uv2 1 2) hq3) ok_X0_atHome ml_X5_102 ⟨Nat.le_of_ble_eq_true rfl, Nat.le_of_ble_eq_true rfl⟩ rfl hl.1 rfl (Nat.le_of_ble_eq_true rfl) dX5_swap_19 ⟨Nat.le_of_ble_eq_true rfl, Nat.le_of_ble_eq_true rfl⟩) (fun H locs ho4 hP => ?_)
    obtain rfl := Option.some.inj h
    exact ve_xi (v := q3) S hF hP hr hk rfl (by decide) (by decide) dX5_swap_22
set_option maxRecDepth 100000 in
set_option maxHeartbeats 4000000 in
theorem c_X5_bar (l : Launch) (P : Pl) (hA : Adr P) (hn : 26 ≤ P.2.2.2.1) (hst : l.stackTraces = false) (w : Wo) (x1 : Int32) {r : (Nat × Wo) ⊕ (Int32 × Wo)} (h : F_X5_bar w x1 = some r) : CxI l P yX5_bar cX5_bar 2 (some .boolean) 8 1 [.ref (P.2.1 0), .int x1] w r := by
  have hlt : ∀ h, h < 26 → h < P.2.2.2.1 := fun h q => Nat.lt_of_lt_of_le q hn
  refine vs_vx hA (by decide +kernel) (Nat.le_of_ble_eq_true rfl) (fun p e s m args below meth c ls S hF hP hl hr hk hxt => ?_)
  have hx := S.1
  have hb := S.2.1
  replace hl : lv_has ls 2 [(0, .ref (P.2.1 0)), (1, .int x1)] := hl
  unfold F_X5_bar at h
  refine lv_aload_n hx hb dX5_bar_0 rfl (lv_at hl 0 rfl) ?_
  refine lv_bipush (v := 120) hx hb dX5_bar_1 (by decide) ?_
  refine lv_iload_n hx hb dX5_bar_3 rfl (lv_at hl 1 rfl) ?_
  refine lv_iconst (v := 0) hx hb dX5_bar_4 (by decide) ?_
  obtain ⟨q1, hq1, h⟩ := ob h
  refine vu_xv hP (vu_VX S hF hP (h := 0) (hlt _ (by decide)) rfl (by decide) rfl (c_X5_change l P hA hn hst w 120 x1 0 hq1) ok_X5_change ml_X5_75 ⟨Nat.le_of_ble_eq_true rfl, Nat.le_of_ble_eq_true rfl⟩ rfl hl.1 rfl (Nat.le_of_ble_eq_true rfl) dX5_bar_5 ⟨Nat.le_of_ble_eq_true rfl, Nat.le_of_ble_eq_true rfl⟩) (fun H locs u ce q9 ho hP e1 e2 e3 => ?_) (fun H locs uv2 ho hP => ?_)
  · subst ho
    obtain rfl := Option.some.inj h
    exact ve_out hF hP hk hxt e1 e2 e3 (by decide) (by decide)
  · subst ho
    rw [Sum.elim_inr] at h
    refine lv_aload_n hx hb dX5_bar_8 rfl (lv_at hl 0 rfl) ?_
    refine vt_getR (r := 1) S hF hP (k := 0) (ci := 5) 0 (hlt _ (by decide)) rfl (by decide) rfl (by decide) rfl rfl (inC_X5 _) (List.mem_cons_of_mem _ fl_X5_12) dX5_bar_9 ?_
    refine lv_iload_n hx hb dX5_bar_12 rfl (lv_at hl 1 rfl) ?_
    refine vu_i hP (vu_V S hF hP (h := 1) (hlt _ (by decide)) rfl (by decide) rfl (c_X0_hasBar l P hA hn uv2 x1) ok_X0_hasBar ml_X5_106 ⟨Nat.le_of_ble_eq_true rfl, Nat.le_of_ble_eq_true rfl⟩ rfl hl.1 rfl (Nat.le_of_ble_eq_true rfl) dX5_bar_13 ⟨Nat.le_of_ble_eq_true rfl, Nat.le_of_ble_eq_true rfl⟩) (fun H locs ho3 hP => ?_)
    obtain rfl := Option.some.inj h
    exact ve_xi (v := (F_X0_hasBar uv2 x1)) S hF hP hr hk ho3 (by decide) (by decide) dX5_bar_16
set_option maxRecDepth 100000 in
set_option maxHeartbeats 4000000 in
theorem c_X5_scramble (l : Launch) (P : Pl) (hA : Adr P) (hn : 26 ≤ P.2.2.2.1) (hst : l.stackTraces = false) (w : Wo) (x1 : Int32) (x2 : Int32) {r : (Nat × Wo) ⊕ (Int32 × Wo)} (h : F_X5_scramble w x1 x2 = some r) : CxI l P yX5_scramble cX5_scramble 4 (some .int) 8 1 [.ref (P.2.1 0), .int x1, .int x2] w r := by
  have hlt : ∀ h, h < 26 → h < P.2.2.2.1 := fun h q => Nat.lt_of_lt_of_le q hn
  refine vs_vx hA (by decide +kernel) (Nat.le_of_ble_eq_true rfl) (fun p e s m args below meth c ls S hF hP hl hr hk hxt => ?_)
  have hx := S.1
  have hb := S.2.1
  replace hl : lv_has ls 4 [(0, .ref (P.2.1 0)), (1, .int x1), (2, .int x2)] := hl
  unfold F_X5_scramble at h
  refine lv_aload_n hx hb dX5_scramble_0 rfl (lv_at hl 0 rfl) ?_
  refine vt_getR (r := 1) S hF hP (k := 0) (ci := 5) 0 (hlt _ (by decide)) rfl (by decide) rfl (by decide) rfl rfl (inC_X5 _) (List.mem_cons_of_mem _ fl_X5_12) dX5_scramble_1 ?_
  refine vt_getI S hF hP (k := 5) (ci := 0) 1 (hlt _ (by decide)) rfl (by decide) rfl (by decide) rfl (inC_X0 _) (List.mem_cons_of_mem _ fl_X5_110) dX5_scramble_4 ?_
  refine lv_istore_n (lv' := [(3, .int (gI w 1 5)), (0, .ref (P.2.1 0)), (1, .int x1), (2, .int x2)]) hx hb dX5_scramble_7 rfl hl (by decide) rfl (fun ls hl => ?_)
  refine lv_aload_n hx hb dX5_scramble_8 rfl (lv_at hl 1 rfl) ?_
  refine lv_bipush (v := 114) hx hb dX5_scramble_9 (by decide) ?_
  refine lv_iload_n hx hb dX5_scramble_11 rfl (lv_at hl 2 rfl) ?_
  refine lv_iload_n hx hb dX5_scramble_12 rfl (lv_at hl 3 rfl) ?_
  obtain ⟨q1, hq1, h⟩ := ob h
  refine vu_xv hP (vu_VX S hF hP (h := 0) (hlt _ (by decide)) rfl (by decide) rfl (c_X5_change l P hA hn hst w 114 x1 x2 hq1) ok_X5_change ml_X5_75 ⟨Nat.le_of_ble_eq_true rfl, Nat.le_of_ble_eq_true rfl⟩ rfl hl.1 rfl (Nat.le_of_ble_eq_true rfl) dX5_scramble_13 ⟨Nat.le_of_ble_eq_true rfl, Nat.le_of_ble_eq_true rfl⟩) (fun H locs u ce q9 ho hP e1 e2 e3 => ?_) (fun H locs uv2 ho hP => ?_)
  · subst ho
    obtain rfl := Option.some.inj h
    exact ve_out hF hP hk hxt e1 e2 e3 (by decide) (by decide)
  · subst ho
    rw [Sum.elim_inr] at h
    refine lv_aload_n hx hb dX5_scramble_16 rfl (lv_at hl 1 rfl) ?_
    refine vt_getR (r := 1) S hF hP (k := 0) (ci := 5) 0 (hlt _ (by decide)) rfl (by decide) rfl (by decide) rfl rfl (inC_X5 _) (List.mem_cons_of_mem _ fl_X5_12) dX5_scramble_17 ?_
    refine vt_getI S hF hP (k := 5) (ci := 0) 1 (hlt _ (by decide)) rfl (by decide) rfl (by decide) rfl (inC_X0 _) (List.mem_cons_of_mem _ fl_X5_110) dX5_scramble_20 ?_
    refine lv_iload_n hx hb dX5_scramble_23 rfl (lv_at hl 0 rfl) ?_
    refine lv_isub hx hb dX5_scramble_24 ?_
    obtain rfl := Option.some.inj h
    exact ve_xi (v := ((gI uv2 1 5) - (gI w 1 5))) S hF hP hr hk rfl (by decide) (by decide) dX5_scramble_25
set_option maxRecDepth 100000 in
set_option maxHeartbeats 4000000 in
theorem c_X0_count (l : Launch) (P : Pl) (hA : Adr P) (hn : 26 ≤ P.2.2.2.1) (w : Wo) (x1 : Int64) (x3 : Int32) {r : Int32} (h : F_X0_count w x1 x3 = some r) : CtI l P yX0_count cX0_count 6 (some .int) 1 [.ref (P.2.1 1), .long x1, .int x3] w r w := by
  have hlt : ∀ h, h < 26 → h < P.2.2.2.1 := fun h q => Nat.lt_of_lt_of_le q hn
  refine vs_met hA (by decide +kernel) (Nat.le_of_ble_eq_true rfl) (fun p e s m args below meth c ls S hF hP hl hr hk => ?_)
  have hx := S.1
  have hb := S.2.1
  replace hl : lv_has ls 6 [(0, .ref (P.2.1 1)), (1, .long x1), (3, .int x3)] := hl
  have hL6 : ∀ (x1 : Int64) (x3 : Int32) (n : Nat) (x4 : Int32) (x5 : Int32), jl2 (B_X0_count_6 w x1 x3) n x4 x5 = some r → ∀ (H : Heap) (locs : List Loc) (ls : Array Slot), St P s w H locs → lv_has ls 6 [(0, .ref (P.2.1 1)), (1, .long x1), (3, .int x3), (4, .int x4), (5, .int x5)] → W p l e (rmU 1 0 0) s m args below meth c H locs 0 0 (QI P (some .int) r w below args s) (F0 m 6 ls []) := by
    intro x1 x3
    intro n
    induction n with
    | zero =>
      intro x4 x5 h
      cases h
    | succ n ih6 =>
      intro x4 x5 h H locs ls hP hl
      replace h : B_X0_count_6 w x1 x3 (jl2 (B_X0_count_6 w x1 x3) n) x4 x5 = some r := h
      revert h ih6
      generalize jl2 (B_X0_count_6 w x1 x3) n = k6
      intro ih6 h
      have hB28 : ∀ (x4 : Int32) (x5 : Int32), B_X0_count_28 k6 w x1 x3 x4 x5 = some r → ∀ (H : Heap) (locs : List Loc) (ls : Array Slot), St P s w H locs → lv_has ls 6 [(0, .ref (P.2.1 1)), (1, .long x1), (3, .int x3), (4, .int x4), (5, .int x5)] → W p l e (rmU 1 0 0) s m args below meth c H locs 0 0 (QI P (some .int) r w below args s) (F0 m 28 ls []) := by
        intro x4 x5 h H locs ls hP hl
        unfold B_X0_count_28 at h
        refine lv_iinc (v := (x5 + 1)) (lv' := [(5, .int (x5 + 1)), (0, .ref (P.2.1 1)), (1, .long x1), (3, .int x3), (4, .int x4)]) hx hb dX0_count_28 hl (k := 4) rfl rfl (by decide) rfl (fun ls hl => ?_)
        refine lv_goto (tgt := 6) hx hb dX0_count_31 (by decide) ?_
        exact ih6 _ _ h _ _ _ hP (lv_sub hl [1, 2, 3, 4, 0] rfl)
      unfold B_X0_count_6 at h
      refine lv_iload hx hb dX0_count_6 (lv_at hl 4 rfl) ?_
      refine lv_aload_n hx hb dX0_count_8 rfl (lv_at hl 0 rfl) ?_
      refine vu_i hP (vu_V S hF hP (h := 1) (hlt _ (by decide)) rfl (by decide) rfl (c_X0_places l P hA hn w) ok_X0_places ml_X0_46 ⟨Nat.le_of_ble_eq_true rfl, Nat.le_of_ble_eq_true rfl⟩ rfl hl.1 rfl (Nat.le_of_ble_eq_true rfl) dX0_count_9 ⟨Nat.le_of_ble_eq_true rfl, Nat.le_of_ble_eq_true rfl⟩) (fun H locs ho1 hP => ?_)
      refine lv_icmp_ge (tgt := 34) hx hb dX0_count_12 (by decide) (fun c3 => ?_) (fun c3 => ?_)
      · rw [if_pos c3] at h
        refine lv_iload hx hb dX0_count_34 (lv_at hl 3 rfl) ?_
        obtain rfl := Option.some.inj h
        exact ve_i (v := x4) S hF hP hr hk rfl dX0_count_36
      · rw [if_neg c3] at h
        refine lv_lload_n hx hb dX0_count_15 rfl (lv_at hl 1 rfl) ?_
        refine lv_iload hx hb dX0_count_16 (lv_at hl 4 rfl) ?_
        refine vu_i hP (vu_SN S hF hP (host := RX5) (c_X5_codeAt l P hA hn w x1 x5) ok_X5_codeAt (by decide +kernel) ⟨Nat.le_of_ble_eq_true rfl, Nat.le_of_ble_eq_true rfl⟩ rfl hl.1 rfl (Nat.le_of_ble_eq_true rfl) dX0_count_18 ⟨Nat.le_of_ble_eq_true rfl, Nat.le_of_ble_eq_true rfl⟩) (fun H locs ho2 hP => ?_)
        refine lv_iload_n hx hb dX0_count_21 rfl (lv_at hl 2 rfl) ?_
        refine lv_icmp_ne (tgt := 28) hx hb dX0_count_22 (by decide) (fun c4 => ?_) (fun c4 => ?_)
        · rw [if_neg c4] at h
          exact hB28 _ _ h _ _ _ hP (lv_sub hl [0, 1, 2, 3, 4] rfl)
        · rw [if_pos c4] at h
          refine lv_iinc (v := (x4 + 1)) (lv' := [(4, .int (x4 + 1)), (0, .ref (P.2.1 1)), (1, .long x1), (3, .int x3), (5, .int x5)]) hx hb dX0_count_25 hl (k := 3) rfl rfl (by decide) rfl (fun ls hl => ?_)
          exact hB28 _ _ h _ _ _ hP (lv_sub hl [1, 2, 3, 0, 4] rfl)
  unfold F_X0_count at h
  refine lv_iconst (v := 0) hx hb dX0_count_0 (by decide) ?_
  refine lv_istore (lv' := [(4, .int 0), (0, .ref (P.2.1 1)), (1, .long x1), (3, .int x3)]) hx hb dX0_count_1 hl (by decide) rfl (fun ls hl => ?_)
  refine lv_iconst (v := 0) hx hb dX0_count_3 (by decide) ?_
  refine lv_istore (lv' := [(5, .int 0), (4, .int 0), (0, .ref (P.2.1 1)), (1, .long x1), (3, .int x3)]) hx hb dX0_count_4 hl (by decide) rfl (fun ls hl => ?_)
  exact hL6 _ _ fu _ _ h _ _ _ hP (lv_sub hl [2, 3, 4, 1, 0] rfl)
set_option maxRecDepth 100000 in
set_option maxHeartbeats 4000000 in
theorem c_X0_unlikeLetters (l : Launch) (P : Pl) (hA : Adr P) (hn : 26 ≤ P.2.2.2.1) (w : Wo) {r : Int32} (h : F_X0_unlikeLetters w = some r) : CtI l P yX0_unlikeLetters cX0_unlikeLetters 3 (some .int) 2 [.ref (P.2.1 1)] w r w := by
  have hlt : ∀ h, h < 26 → h < P.2.2.2.1 := fun h q => Nat.lt_of_lt_of_le q hn
  refine vs_met hA (by decide +kernel) (Nat.le_of_ble_eq_true rfl) (fun p e s m args below meth c ls S hF hP hl hr hk => ?_)
  have hx := S.1
  have hb := S.2.1
  replace hl : lv_has ls 3 [(0, .ref (P.2.1 1))] := hl
  have hL4 : ∀ (n : Nat) (x1 : Int32) (x2 : Int32), jl2 (B_X0_unlikeLetters_4 w) n x1 x2 = some r → ∀ (H : Heap) (locs : List Loc) (ls : Array Slot), St P s w H locs → lv_has ls 3 [(0, .ref (P.2.1 1)), (1, .int x1), (2, .int x2)] → W p l e (rmU 2 0 0) s m args below meth c H locs 0 0 (QI P (some .int) r w below args s) (F0 m 4 ls []) := by
    intro n
    induction n with
    | zero =>
      intro x1 x2 h
      cases h
    | succ n ih4 =>
      intro x1 x2 h H locs ls hP hl
      replace h : B_X0_unlikeLetters_4 w (jl2 (B_X0_unlikeLetters_4 w) n) x1 x2 = some r := h
      revert h ih4
      generalize jl2 (B_X0_unlikeLetters_4 w) n = k4
      intro ih4 h
      have hB25 : ∀ (x1 : Int32) (x2 : Int32), B_X0_unlikeLetters_25 k4 w x1 x2 = some r → ∀ (H : Heap) (locs : List Loc) (ls : Array Slot), St P s w H locs → lv_has ls 3 [(0, .ref (P.2.1 1)), (1, .int x1), (2, .int x2)] → W p l e (rmU 2 0 0) s m args below meth c H locs 0 0 (QI P (some .int) r w below args s) (F0 m 25 ls []) := by
        intro x1 x2 h H locs ls hP hl
        unfold B_X0_unlikeLetters_25 at h
        refine lv_iinc (v := (x2 + 1)) (lv' := [(2, .int (x2 + 1)), (0, .ref (P.2.1 1)), (1, .int x1)]) hx hb dX0_unlikeLetters_25 hl (k := 2) rfl rfl (by decide) rfl (fun ls hl => ?_)
        refine lv_goto (tgt := 4) hx hb dX0_unlikeLetters_28 (by decide) ?_
        exact ih4 _ _ h _ _ _ hP (lv_sub hl [1, 2, 0] rfl)
      unfold B_X0_unlikeLetters_4 at h
      refine lv_iload_n hx hb dX0_unlikeLetters_4 rfl (lv_at hl 2 rfl) ?_
      refine lv_bipush (v := 12) hx hb dX0_unlikeLetters_5 (by decide) ?_
      refine lv_icmp_ge (tgt := 31) hx hb dX0_unlikeLetters_7 (by decide) (fun c3 => ?_) (fun c3 => ?_)
      · rw [if_pos c3] at h
        refine lv_iload_n hx hb dX0_unlikeLetters_31 rfl (lv_at hl 1 rfl) ?_
        obtain rfl := Option.some.inj h
        exact ve_i (v := x1) S hF hP hr hk rfl dX0_unlikeLetters_32
      · rw [if_neg c3] at h
        refine lv_aload_n hx hb dX0_unlikeLetters_10 rfl (lv_at hl 0 rfl) ?_
        refine lv_aload_n hx hb dX0_unlikeLetters_11 rfl (lv_at hl 0 rfl) ?_
        refine vt_getL S hF hP (k := 2) (ci := 0) 1 (hlt _ (by decide)) rfl (by decide) rfl (by decide) rfl (inC_X0 _) (List.mem_cons_of_mem _ fl_X0_18) dX0_unlikeLetters_12 ?_
        refine lv_iload_n hx hb dX0_unlikeLetters_15 rfl (lv_at hl 2 rfl) ?_
        obtain ⟨q1, hq1, h⟩ := ob h
        refine vu_i hP (vu_V S hF hP (h := 1) (hlt _ (by decide)) rfl (by decide) rfl (c_X0_count l P hA hn w (gL w 1 2) x2 hq1) ok_X0_count ml_X0_109 ⟨Nat.le_of_ble_eq_true rfl, Nat.le_of_ble_eq_true rfl⟩ rfl hl.1 rfl (Nat.le_of_ble_eq_true rfl) dX0_unlikeLetters_16 ⟨Nat.le_of_ble_eq_true rfl, Nat.le_of_ble_eq_true rfl⟩) (fun H locs ho2 hP => ?_)
        refine lv_if_le (tgt := 25) hx hb dX0_unlikeLetters_19 (by decide) (fun c4 => ?_) (fun c4 => ?_)
        · rw [if_pos c4] at h
          exact hB25 _ _ h _ _ _ hP (lv_sub hl [0, 1, 2] rfl)
        · rw [if_neg c4] at h
          refine lv_iinc (v := (x1 + 1)) (lv' := [(1, .int (x1 + 1)), (0, .ref (P.2.1 1)), (2, .int x2)]) hx hb dX0_unlikeLetters_22 hl (k := 1) rfl rfl (by decide) rfl (fun ls hl => ?_)
          exact hB25 _ _ h _ _ _ hP (lv_sub hl [1, 0, 2] rfl)
  unfold F_X0_unlikeLetters at h
  refine lv_iconst (v := 0) hx hb dX0_unlikeLetters_0 (by decide) ?_
  refine lv_istore_n (lv' := [(1, .int 0), (0, .ref (P.2.1 1))]) hx hb dX0_unlikeLetters_1 rfl hl (by decide) rfl (fun ls hl => ?_)
  refine lv_iconst (v := 0) hx hb dX0_unlikeLetters_2 (by decide) ?_
  refine lv_istore_n (lv' := [(2, .int 0), (1, .int 0), (0, .ref (P.2.1 1))]) hx hb dX0_unlikeLetters_3 rfl hl (by decide) rfl (fun ls hl => ?_)
  exact hL4 fu _ _ h _ _ _ hP (lv_sub hl [2, 1, 0] rfl)
set_option maxRecDepth 100000 in
set_option maxHeartbeats 4000000 in
theorem c_X0_areAllUnlike (l : Launch) (P : Pl) (hA : Adr P) (hn : 26 ≤ P.2.2.2.1) (w : Wo) {r : Int32} (h : F_X0_areAllUnlike w = some r) : CtI l P yX0_areAllUnlike cX0_areAllUnlike 1 (some .boolean) 3 [.ref (P.2.1 1)] w r w := by
  have hlt : ∀ h, h < 26 → h < P.2.2.2.1 := fun h q => Nat.lt_of_lt_of_le q hn
  refine vs_met hA (by decide +kernel) (Nat.le_of_ble_eq_true rfl) (fun p e s m args below meth c ls S hF hP hl hr hk => ?_)
  have hx := S.1
  have hb := S.2.1
  replace hl : lv_has ls 1 [(0, .ref (P.2.1 1))] := hl
  unfold F_X0_areAllUnlike at h
  refine lv_aload_n hx hb dX0_areAllUnlike_0 rfl (lv_at hl 0 rfl) ?_
  obtain ⟨q1, hq1, h⟩ := ob h
  refine vu_i hP (vu_V S hF hP (h := 1) (hlt _ (by decide)) rfl (by decide) rfl (c_X0_unlikeLetters l P hA hn w hq1) ok_X0_unlikeLetters ml_X0_112 ⟨Nat.le_of_ble_eq_true rfl, Nat.le_of_ble_eq_true rfl⟩ rfl hl.1 rfl (Nat.le_of_ble_eq_true rfl) dX0_areAllUnlike_1 ⟨Nat.le_of_ble_eq_true rfl, Nat.le_of_ble_eq_true rfl⟩) (fun H locs ho2 hP => ?_)
  refine lv_aload_n hx hb dX0_areAllUnlike_4 rfl (lv_at hl 0 rfl) ?_
  refine vu_i hP (vu_V S hF hP (h := 1) (hlt _ (by decide)) rfl (by decide) rfl (c_X0_places l P hA hn w) ok_X0_places ml_X0_46 ⟨Nat.le_of_ble_eq_true rfl, Nat.le_of_ble_eq_true rfl⟩ rfl hl.1 rfl (Nat.le_of_ble_eq_true rfl) dX0_areAllUnlike_5 ⟨Nat.le_of_ble_eq_true rfl, Nat.le_of_ble_eq_true rfl⟩) (fun H locs ho3 hP => ?_)
  refine lv_icmp_ne (tgt := 15) hx hb dX0_areAllUnlike_8 (by decide) (fun c4 => ?_) (fun c4 => ?_)
  · rw [if_neg c4] at h
    refine lv_iconst (v := 0) hx hb dX0_areAllUnlike_15 (by decide) ?_
    obtain rfl := Option.some.inj h
    exact ve_i (v := 0) S hF hP hr hk rfl dX0_areAllUnlike_16
  · rw [if_pos c4] at h
    refine lv_iconst (v := 1) hx hb dX0_areAllUnlike_11 (by decide) ?_
    refine lv_goto (tgt := 16) hx hb dX0_areAllUnlike_12 (by decide) ?_
    obtain rfl := Option.some.inj h
    exact ve_i (v := 1) S hF hP hr hk rfl dX0_areAllUnlike_16
set_option maxRecDepth 100000 in
set_option maxHeartbeats 4000000 in
theorem c_X0_placeOf (l : Launch) (P : Pl) (hA : Adr P) (hn : 26 ≤ P.2.2.2.1) (w : Wo) (x1 : Int64) (x3 : Int32) {r : Int32} (h : F_X0_placeOf w x1 x3 = some r) : CtI l P yX0_placeOf cX0_placeOf 5 (some .int) 1 [.ref (P.2.1 1), .long x1, .int x3] w r w := by
  have hlt : ∀ h, h < 26 → h < P.2.2.2.1 := fun h q => Nat.lt_of_lt_of_le q hn
  refine vs_met hA (by decide +kernel) (Nat.le_of_ble_eq_true rfl) (fun p e s m args below meth c ls S hF hP hl hr hk => ?_)
  have hx := S.1
  have hb := S.2.1
  replace hl : lv_has ls 5 [(0, .ref (P.2.1 1)), (1, .long x1), (3, .int x3)] := hl
  have hL3 : ∀ (x1 : Int64) (x3 : Int32) (n : Nat) (x4 : Int32), jl1 (B_X0_placeOf_3 w x1 x3) n x4 = some r → ∀ (H : Heap) (locs : List Loc) (ls : Array Slot), St P s w H locs → lv_has ls 5 [(0, .ref (P.2.1 1)), (1, .long x1), (3, .int x3), (4, .int x4)] → W p l e (rmU 1 0 0) s m args below meth c H locs 0 0 (QI P (some .int) r w below args s) (F0 m 3 ls []) := by
    intro x1 x3
    intro n
    induction n with
    | zero =>
      intro x4 h
      cases h
    | succ n ih3 =>
      intro x4 h H locs ls hP hl
      replace h : B_X0_placeOf_3 w x1 x3 (jl1 (B_X0_placeOf_3 w x1 x3) n) x4 = some r := h
      revert h ih3
      generalize jl1 (B_X0_placeOf_3 w x1 x3) n = k3
      intro ih3 h
      unfold B_X0_placeOf_3 at h
      refine lv_iload hx hb dX0_placeOf_3 (lv_at hl 3 rfl) ?_
      refine lv_aload_n hx hb dX0_placeOf_5 rfl (lv_at hl 0 rfl) ?_
      refine vu_i hP (vu_V S hF hP (h := 1) (hlt _ (by decide)) rfl (by decide) rfl (c_X0_places l P hA hn w) ok_X0_places ml_X0_46 ⟨Nat.le_of_ble_eq_true rfl, Nat.le_of_ble_eq_true rfl⟩ rfl hl.1 rfl (Nat.le_of_ble_eq_true rfl) dX0_placeOf_6 ⟨Nat.le_of_ble_eq_true rfl, Nat.le_of_ble_eq_true rfl⟩) (fun H locs ho1 hP => ?_)
      refine lv_icmp_ge (tgt := 31) hx hb dX0_placeOf_9 (by decide) (fun c3 => ?_) (fun c3 => ?_)
      · rw [if_pos c3] at h
        refine lv_iconst (v := (-1)) hx hb dX0_placeOf_31 (by decide) ?_
        obtain rfl := Option.some.inj h
        exact ve_i (v := (-1)) S hF hP hr hk rfl dX0_placeOf_32
      · rw [if_neg c3] at h
        refine lv_lload_n hx hb dX0_placeOf_12 rfl (lv_at hl 1 rfl) ?_
        refine lv_iload hx hb dX0_placeOf_13 (lv_at hl 3 rfl) ?_
        refine vu_i hP (vu_SN S hF hP (host := RX5) (c_X5_codeAt l P hA hn w x1 x4) ok_X5_codeAt (by decide +kernel) ⟨Nat.le_of_ble_eq_true rfl, Nat.le_of_ble_eq_true rfl⟩ rfl hl.1 rfl (Nat.le_of_ble_eq_true rfl) dX0_placeOf_15 ⟨Nat.le_of_ble_eq_true rfl, Nat.le_of_ble_eq_true rfl⟩) (fun H locs ho2 hP => ?_)
        refine lv_iload_n hx hb dX0_placeOf_18 rfl (lv_at hl 2 rfl) ?_
        refine lv_icmp_ne (tgt := 25) hx hb dX0_placeOf_19 (by decide) (fun c4 => ?_) (fun c4 => ?_)
        · rw [if_neg c4] at h
          refine lv_iinc (v := (x4 + 1)) (lv' := [(4, .int (x4 + 1)), (0, .ref (P.2.1 1)), (1, .long x1), (3, .int x3)]) hx hb dX0_placeOf_25 hl (k := 3) rfl rfl (by decide) rfl (fun ls hl => ?_)
          refine lv_goto (tgt := 3) hx hb dX0_placeOf_28 (by decide) ?_
          exact ih3 _ h _ _ _ hP (lv_sub hl [1, 2, 3, 0] rfl)
        · rw [if_pos c4] at h
          refine lv_iload hx hb dX0_placeOf_22 (lv_at hl 3 rfl) ?_
          obtain rfl := Option.some.inj h
          exact ve_i (v := x4) S hF hP hr hk rfl dX0_placeOf_24
  unfold F_X0_placeOf at h
  refine lv_iconst (v := 0) hx hb dX0_placeOf_0 (by decide) ?_
  refine lv_istore (lv' := [(4, .int 0), (0, .ref (P.2.1 1)), (1, .long x1), (3, .int x3)]) hx hb dX0_placeOf_1 hl (by decide) rfl (fun ls hl => ?_)
  exact hL3 _ _ fu _ h _ _ _ hP (lv_sub hl [1, 2, 3, 0] rfl)
set_option maxRecDepth 100000 in
set_option maxHeartbeats 4000000 in
theorem c_X0_filledAim (l : Launch) (P : Pl) (hA : Adr P) (hn : 26 ≤ P.2.2.2.1) (w : Wo) {r : Int64} (h : F_X0_filledAim w = some r) : CtL l P yX0_filledAim cX0_filledAim 3 (some .long) 2 [.ref (P.2.1 1)] w r w := by
  have hlt : ∀ h, h < 26 → h < P.2.2.2.1 := fun h q => Nat.lt_of_lt_of_le q hn
  refine vs_met hA (by decide +kernel) (Nat.le_of_ble_eq_true rfl) (fun p e s m args below meth c ls S hF hP hl hr hk => ?_)
  have hx := S.1
  have hb := S.2.1
  replace hl : lv_has ls 3 [(0, .ref (P.2.1 1))] := hl
  have hB60 : B_X0_filledAim_60 w = some r → ∀ (H : Heap) (locs : List Loc) (ls : Array Slot), St P s w H locs → lv_has ls 3 [(0, .ref (P.2.1 1))] → W p l e (rmU 2 0 0) s m args below meth c H locs 0 0 (QL P r w below args s) (F0 m 60 ls []) := by
    intro h H locs ls hP hl
    unfold B_X0_filledAim_60 at h
    refine lv_aload_n hx hb dX0_filledAim_60 rfl (lv_at hl 0 rfl) ?_
    refine vt_getL S hF hP (k := 3) (ci := 0) 1 (hlt _ (by decide)) rfl (by decide) rfl (by decide) rfl (inC_X0 _) (List.mem_cons_of_mem _ fl_X0_22) dX0_filledAim_61 ?_
    obtain rfl := Option.some.inj h
    exact ve_l S hF hP hr hk dX0_filledAim_64
  have hB44 : ∀ (x1 : Int32) (x2 : Int32), B_X0_filledAim_44 w x1 x2 = some r → ∀ (H : Heap) (locs : List Loc) (ls : Array Slot), St P s w H locs → lv_has ls 3 [(0, .ref (P.2.1 1)), (1, .int x1), (2, .int x2)] → W p l e (rmU 2 0 0) s m args below meth c H locs 0 0 (QL P r w below args s) (F0 m 44 ls []) := by
    intro x1 x2 h H locs ls hP hl
    unfold B_X0_filledAim_44 at h
    refine lv_aload_n hx hb dX0_filledAim_44 rfl (lv_at hl 0 rfl) ?_
    refine vt_getL S hF hP (k := 3) (ci := 0) 1 (hlt _ (by decide)) rfl (by decide) rfl (by decide) rfl (inC_X0 _) (List.mem_cons_of_mem _ fl_X0_22) dX0_filledAim_45 ?_
    refine lv_iload_n hx hb dX0_filledAim_48 rfl (lv_at hl 1 rfl) ?_
    refine lv_iload_n hx hb dX0_filledAim_49 rfl (lv_at hl 2 rfl) ?_
    refine vu_l hP (vu_SN S hF hP (host := RX5) (c_X5_withCode l P hA hn w (gL w 1 3) x1 x2) ok_X5_withCode (by decide +kernel) ⟨Nat.le_of_ble_eq_true rfl, Nat.le_of_ble_eq_true rfl⟩ rfl hl.1 rfl (Nat.le_of_ble_eq_true rfl) dX0_filledAim_50 ⟨Nat.le_of_ble_eq_true rfl, Nat.le_of_ble_eq_true rfl⟩) (fun H locs hP => ?_)
    obtain rfl := Option.some.inj h
    exact ve_l S hF hP hr hk dX0_filledAim_53
  have hL13 : ∀ (x1 : Int32) (n : Nat) (x2 : Int32), jl1 (B_X0_filledAim_13 w x1) n x2 = some r → ∀ (H : Heap) (locs : List Loc) (ls : Array Slot), St P s w H locs → lv_has ls 3 [(0, .ref (P.2.1 1)), (1, .int x1), (2, .int x2)] → W p l e (rmU 2 0 0) s m args below meth c H locs 0 0 (QL P r w below args s) (F0 m 13 ls []) := by
    intro x1
    intro n
    induction n with
    | zero =>
      intro x2 h
      cases h
    | succ n ih13 =>
      intro x2 h H locs ls hP hl
      replace h : B_X0_filledAim_13 w x1 (jl1 (B_X0_filledAim_13 w x1) n) x2 = some r := h
      revert h ih13
      generalize jl1 (B_X0_filledAim_13 w x1) n = k13
      intro ih13 h
      unfold B_X0_filledAim_13 at h
      refine lv_iload_n hx hb dX0_filledAim_13 rfl (lv_at hl 2 rfl) ?_
      refine lv_bipush (v := 12) hx hb dX0_filledAim_14 (by decide) ?_
      refine lv_icmp_ge (tgt := 60) hx hb dX0_filledAim_16 (by decide) (fun c7 => ?_) (fun c7 => ?_)
      · rw [if_pos c7] at h
        exact hB60 h _ _ _ hP (lv_sub hl [0] rfl)
      · rw [if_neg c7] at h
        refine lv_iload_n hx hb dX0_filledAim_19 rfl (lv_at hl 1 rfl) ?_
        refine lv_if_lt (tgt := 60) hx hb dX0_filledAim_20 (by decide) (fun c8 => ?_) (fun c8 => ?_)
        · rw [if_pos c8] at h
          exact hB60 h _ _ _ hP (lv_sub hl [0] rfl)
        · rw [if_neg c8] at h
          refine lv_aload_n hx hb dX0_filledAim_23 rfl (lv_at hl 0 rfl) ?_
          refine lv_aload_n hx hb dX0_filledAim_24 rfl (lv_at hl 0 rfl) ?_
          refine vt_getL S hF hP (k := 2) (ci := 0) 1 (hlt _ (by decide)) rfl (by decide) rfl (by decide) rfl (inC_X0 _) (List.mem_cons_of_mem _ fl_X0_18) dX0_filledAim_25 ?_
          refine lv_iload_n hx hb dX0_filledAim_28 rfl (lv_at hl 2 rfl) ?_
          obtain ⟨q3, hq3, h⟩ := ob h
          refine vu_i hP (vu_V S hF hP (h := 1) (hlt _ (by decide)) rfl (by decide) rfl (c_X0_count l P hA hn w (gL w 1 2) x2 hq3) ok_X0_count ml_X0_109 ⟨Nat.le_of_ble_eq_true rfl, Nat.le_of_ble_eq_true rfl⟩ rfl hl.1 rfl (Nat.le_of_ble_eq_true rfl) dX0_filledAim_29 ⟨Nat.le_of_ble_eq_true rfl, Nat.le_of_ble_eq_true rfl⟩) (fun H locs ho4 hP => ?_)
          refine lv_aload_n hx hb dX0_filledAim_32 rfl (lv_at hl 0 rfl) ?_
          refine lv_aload_n hx hb dX0_filledAim_33 rfl (lv_at hl 0 rfl) ?_
          refine vt_getL S hF hP (k := 3) (ci := 0) 1 (hlt _ (by decide)) rfl (by decide) rfl (by decide) rfl (inC_X0 _) (List.mem_cons_of_mem _ fl_X0_22) dX0_filledAim_34 ?_
          refine lv_iload_n hx hb dX0_filledAim_37 rfl (lv_at hl 2 rfl) ?_
          obtain ⟨q5, hq5, h⟩ := ob h
          refine vu_i hP (vu_V S hF hP (h := 1) (hlt _ (by decide)) rfl (by decide) rfl (c_X0_count l P hA hn w (gL w 1 3) x2 hq5) ok_X0_count ml_X0_109 ⟨Nat.le_of_ble_eq_true rfl, Nat.le_of_ble_eq_true rfl⟩ rfl hl.1 rfl (Nat.le_of_ble_eq_true rfl) dX0_filledAim_38 ⟨Nat.le_of_ble_eq_true rfl, Nat.le_of_ble_eq_true rfl⟩) (fun H locs ho6 hP => ?_)
          refine lv_icmp_le (tgt := 54) hx hb dX0_filledAim_41 (by decide) (fun c9 => ?_) (fun c9 => ?_)
          · rw [if_pos c9] at h
            refine lv_iinc (v := (x2 + 1)) (lv' := [(2, .int (x2 + 1)), (0, .ref (P.2.1 1)), (1, .int x1)]) hx hb dX0_filledAim_54 hl (k := 2) rfl rfl (by decide) rfl (fun ls hl => ?_)
            refine lv_goto (tgt := 13) hx hb dX0_filledAim_57 (by decide) ?_
            exact ih13 _ h _ _ _ hP (lv_sub hl [1, 2, 0] rfl)
          · rw [if_neg c9] at h
            exact hB44 _ _ h _ _ _ hP (lv_sub hl [0, 1, 2] rfl)
  unfold F_X0_filledAim at h
  refine lv_aload_n hx hb dX0_filledAim_0 rfl (lv_at hl 0 rfl) ?_
  refine lv_aload_n hx hb dX0_filledAim_1 rfl (lv_at hl 0 rfl) ?_
  refine vt_getL S hF hP (k := 3) (ci := 0) 1 (hlt _ (by decide)) rfl (by decide) rfl (by decide) rfl (inC_X0 _) (List.mem_cons_of_mem _ fl_X0_22) dX0_filledAim_2 ?_
  refine lv_bipush (v := 12) hx hb dX0_filledAim_5 (by decide) ?_
  obtain ⟨q1, hq1, h⟩ := ob h
  refine vu_i hP (vu_V S hF hP (h := 1) (hlt _ (by decide)) rfl (by decide) rfl (c_X0_placeOf l P hA hn w (gL w 1 3) 12 hq1) ok_X0_placeOf ml_X0_125 ⟨Nat.le_of_ble_eq_true rfl, Nat.le_of_ble_eq_true rfl⟩ rfl hl.1 rfl (Nat.le_of_ble_eq_true rfl) dX0_filledAim_7 ⟨Nat.le_of_ble_eq_true rfl, Nat.le_of_ble_eq_true rfl⟩) (fun H locs ho2 hP => ?_)
  refine lv_istore_n (lv' := [(1, .int q1), (0, .ref (P.2.1 1))]) hx hb dX0_filledAim_10 rfl hl (by decide) rfl (fun ls hl => ?_)
  refine lv_iconst (v := 0) hx hb dX0_filledAim_11 (by decide) ?_
  refine lv_istore_n (lv' := [(2, .int 0), (1, .int q1), (0, .ref (P.2.1 1))]) hx hb dX0_filledAim_12 rfl hl (by decide) rfl (fun ls hl => ?_)
  exact hL13 _ fu _ h _ _ _ hP (lv_sub hl [2, 1, 0] rfl)
