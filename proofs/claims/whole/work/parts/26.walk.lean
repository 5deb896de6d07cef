set_option maxRecDepth 100000 in
set_option maxHeartbeats 4000000 in
theorem c_X6_refused (l : Launch) (P : Pl) (hA : Adr P) (hn : 36 ≤ P.2.2.2.1) (w : Wo) (x1 : Int32) (x2 : Int32) (x3 : Int32) {r : Int32 × Wo} (h : F_X6_refused w x1 x2 x3 = some r) : CtI l P yX6_refused cX6_refused 4 (some .int) 0 [.ref (P.2.1 26), .int x1, .int x2, .int x3] w r.1 r.2 := by
  have hlt : ∀ h, h < 36 → h < P.2.2.2.1 := fun h q => Nat.lt_of_lt_of_le q hn
  refine vs_met hA (by decide +kernel) (Nat.le_of_ble_eq_true rfl) (fun p e s m args below meth c ls S hF hP hl hr hk => ?_)
  have hx := S.1
  have hb := S.2.1
  replace hl : lv_has ls 4 [(0, .ref (P.2.1 26)), (1, .int x1), (2, .int x2), (3, .int x3)] := hl
  have hB20 : ∀ (w : Wo), B_X6_refused_20 w = some r → ∀ (H : Heap) (locs : List Loc) (ls : Array Slot), St P s w H locs → lv_has ls 4 [] → W p l e (rmU 0 0 0) s m args below meth c H locs 0 0 (QI P (some .int) r.1 r.2 below args s) (F0 m 20 ls []) := by
    intro w h H locs ls hP hl
    unfold B_X6_refused_20 at h
    refine lv_iconst (v := 0) hx hb dX6_refused_20 (by decide) ?_
    obtain rfl := Option.some.inj h
    exact ve_i (v := 0) S hF hP hr hk rfl dX6_refused_21
  have hB15 : ∀ (w : Wo), B_X6_refused_15 w = some r → ∀ (H : Heap) (locs : List Loc) (ls : Array Slot), St P s w H locs → lv_has ls 4 [(0, .ref (P.2.1 26))] → W p l e (rmU 0 0 0) s m args below meth c H locs 0 0 (QI P (some .int) r.1 r.2 below args s) (F0 m 15 ls []) := by
    intro w h H locs ls hP hl
    unfold B_X6_refused_15 at h
    refine lv_aload_n hx hb dX6_refused_15 rfl (lv_at hl 0 rfl) ?_
    refine lv_iconst (v := 1) hx hb dX6_refused_16 (by decide) ?_
    refine vt_putI S hF hP (k := 11) (ci := 6) 26 (hlt _ (by decide)) rfl (by decide) rfl (by decide) rfl tyX6 tyX6_ok nmX6 rfl rfl rfl rfl (by decide) (inC_X6 _) (List.mem_cons_of_mem _ fl_X6_49) dX6_refused_17 (fun H locs hP => ?_)
    exact hB20 _ h _ _ _ hP (lv_sub hl [] rfl)
  have hB10 : ∀ (w : Wo) (x3 : Int32), B_X6_refused_10 w x3 = some r → ∀ (H : Heap) (locs : List Loc) (ls : Array Slot), St P s w H locs → lv_has ls 4 [(0, .ref (P.2.1 26)), (3, .int x3)] → W p l e (rmU 0 0 0) s m args below meth c H locs 0 0 (QI P (some .int) r.1 r.2 below args s) (F0 m 10 ls []) := by
    intro w x3 h H locs ls hP hl
    unfold B_X6_refused_10 at h
    refine lv_aload_n hx hb dX6_refused_10 rfl (lv_at hl 0 rfl) ?_
    refine lv_iload_n hx hb dX6_refused_11 rfl (lv_at hl 1 rfl) ?_
    refine vt_putI S hF hP (k := 14) (ci := 6) 26 (hlt _ (by decide)) rfl (by decide) rfl (by decide) rfl tyX6 tyX6_ok nmX6 rfl rfl rfl rfl (by decide) (inC_X6 _) (List.mem_cons_of_mem _ fl_X6_46) dX6_refused_12 (fun H locs hP => ?_)
    exact hB15 _ h _ _ _ hP (lv_sub hl [0] rfl)
  have hB5 : ∀ (w : Wo) (x2 : Int32) (x3 : Int32), B_X6_refused_5 w x2 x3 = some r → ∀ (H : Heap) (locs : List Loc) (ls : Array Slot), St P s w H locs → lv_has ls 4 [(0, .ref (P.2.1 26)), (2, .int x2), (3, .int x3)] → W p l e (rmU 0 0 0) s m args below meth c H locs 0 0 (QI P (some .int) r.1 r.2 below args s) (F0 m 5 ls []) := by
    intro w x2 x3 h H locs ls hP hl
    unfold B_X6_refused_5 at h
    refine lv_aload_n hx hb dX6_refused_5 rfl (lv_at hl 0 rfl) ?_
    refine lv_iload_n hx hb dX6_refused_6 rfl (lv_at hl 1 rfl) ?_
    refine vt_putI S hF hP (k := 10) (ci := 6) 26 (hlt _ (by decide)) rfl (by decide) rfl (by decide) rfl tyX6 tyX6_ok nmX6 rfl rfl rfl rfl (by decide) (inC_X6 _) (List.mem_cons_of_mem _ fl_X6_56) dX6_refused_7 (fun H locs hP => ?_)
    exact hB10 _ _ h _ _ _ hP (lv_sub hl [0, 2] rfl)
  unfold F_X6_refused at h
  refine lv_aload_n hx hb dX6_refused_0 rfl (lv_at hl 0 rfl) ?_
  refine lv_iload_n hx hb dX6_refused_1 rfl (lv_at hl 1 rfl) ?_
  refine vt_putI S hF hP (k := 9) (ci := 6) 26 (hlt _ (by decide)) rfl (by decide) rfl (by decide) rfl tyX6 tyX6_ok nmX6 rfl rfl rfl rfl (by decide) (inC_X6 _) (List.mem_cons_of_mem _ fl_X6_53) dX6_refused_2 (fun H locs hP => ?_)
  exact hB5 _ _ _ h _ _ _ hP (lv_sub hl [0, 2, 3] rfl)
set_option maxRecDepth 100000 in
set_option maxHeartbeats 4000000 in
theorem c_X6_copy (l : Launch) (P : Pl) (hA : Adr P) (hn : 36 ≤ P.2.2.2.1) (h0 : Nat) (n0 : Nat) (h2 : Nat) (n2 : Nat) (hs0 : shp h0 = (10, n0)) (hb0 : h0 < 36) (hs2 : shp h2 = (10, n2)) (hb2 : h2 < 36) (w : Wo) (x1 : Int32) (x3 : Int32) {r : Wo} (h : F_X6_copy h0 n0 h2 n2 w x1 x3 = some r) : CtV l P yX6_copy cX6_copy 5 none 0 [.ref (P.2.1 h0), .int x1, .ref (P.2.1 h2), .int x3] w r := by
  have hlt : ∀ h, h < 36 → h < P.2.2.2.1 := fun h q => Nat.lt_of_lt_of_le q hn
  refine vs_met hA (by decide +kernel) (Nat.le_of_ble_eq_true rfl) (fun p e s m args below meth c ls S hF hP hl hr hk => ?_)
  have hx := S.1
  have hb := S.2.1
  replace hl : lv_has ls 5 [(0, .ref (P.2.1 h0)), (1, .int x1), (2, .ref (P.2.1 h2)), (3, .int x3)] := hl
  have hL3 : ∀ (x1 : Int32) (x3 : Int32) (n : Nat) (w : Wo) (x4 : Int32), jl2 (B_X6_copy_3 h0 n0 h2 n2 x1 x3) n w x4 = some r → ∀ (H : Heap) (locs : List Loc) (ls : Array Slot), St P s w H locs → lv_has ls 5 [(0, .ref (P.2.1 h0)), (1, .int x1), (2, .ref (P.2.1 h2)), (3, .int x3), (4, .int x4)] → W p l e (rmU 0 0 0) s m args below meth c H locs 0 0 (QV P r below args s) (F0 m 3 ls []) := by
    intro x1 x3
    intro n
    induction n with
    | zero =>
      intro w x4 h
      cases h
    | succ n ih3 =>
      intro w x4 h H locs ls hP hl
      replace h : B_X6_copy_3 h0 n0 h2 n2 x1 x3 (jl2 (B_X6_copy_3 h0 n0 h2 n2 x1 x3) n) w x4 = some r := h
      revert h ih3
      generalize jl2 (B_X6_copy_3 h0 n0 h2 n2 x1 x3) n = k3
      intro ih3 h
      have hB22 : ∀ (w : Wo) (x4 : Int32), B_X6_copy_22 k3 h0 n0 h2 n2 w x1 x3 x4 = some r → ∀ (H : Heap) (locs : List Loc) (ls : Array Slot), St P s w H locs → lv_has ls 5 [(0, .ref (P.2.1 h0)), (1, .int x1), (2, .ref (P.2.1 h2)), (3, .int x3), (4, .int x4)] → W p l e (rmU 0 0 0) s m args below meth c H locs 0 0 (QV P r below args s) (F0 m 22 ls []) := by
        intro w x4 h H locs ls hP hl
        unfold B_X6_copy_22 at h
        refine lv_iinc (v := (x4 + 1)) (lv' := [(4, .int (x4 + 1)), (0, .ref (P.2.1 h0)), (1, .int x1), (2, .ref (P.2.1 h2)), (3, .int x3)]) hx hb dX6_copy_22 hl (k := 4) rfl rfl (by decide) rfl (fun ls hl => ?_)
        refine lv_goto (tgt := 3) hx hb dX6_copy_25 (by decide) ?_
        exact ih3 _ _ h _ _ _ hP (lv_sub hl [1, 2, 3, 4, 0] rfl)
      unfold B_X6_copy_3 at h
      refine lv_iload hx hb dX6_copy_3 (lv_at hl 4 rfl) ?_
      refine lv_bipush (v := 32) hx hb dX6_copy_5 (by decide) ?_
      refine lv_icmp_ge (tgt := 28) hx hb dX6_copy_7 (by decide) (fun c1 => ?_) (fun c1 => ?_)
      · rw [if_pos c1] at h
        obtain rfl := Option.some.inj h
        exact ve_v S hF hP hr hk dX6_copy_28
      · rw [if_neg c1] at h
        refine lv_aload_n hx hb dX6_copy_10 rfl (lv_at hl 2 rfl) ?_
        refine lv_iload_n hx hb dX6_copy_11 rfl (lv_at hl 3 rfl) ?_
        refine lv_iload hx hb dX6_copy_12 (lv_at hl 4 rfl) ?_
        refine lv_iadd hx hb dX6_copy_14 ?_
        refine lv_aload_n hx hb dX6_copy_15 rfl (lv_at hl 0 rfl) ?_
        refine lv_iload_n hx hb dX6_copy_16 rfl (lv_at hl 1 rfl) ?_
        refine lv_iload hx hb dX6_copy_17 (lv_at hl 4 rfl) ?_
        refine lv_iadd hx hb dX6_copy_19 ?_
        obtain ⟨c2, h⟩ := chk h
        refine vt_iald S hF hP (hlt _ hb0) hs0 c2 dX6_copy_20 ?_
        obtain ⟨c3, h⟩ := chk h
        refine vt_iast S hF hP (hlt _ hb2) hs2 c3 dX6_copy_21 (fun H locs hP => ?_)
        exact hB22 _ _ h _ _ _ hP (lv_sub hl [0, 1, 2, 3, 4] rfl)
  unfold F_X6_copy at h
  refine lv_iconst (v := 0) hx hb dX6_copy_0 (by decide) ?_
  refine lv_istore (lv' := [(4, .int 0), (0, .ref (P.2.1 h0)), (1, .int x1), (2, .ref (P.2.1 h2)), (3, .int x3)]) hx hb dX6_copy_1 hl (by decide) rfl (fun ls hl => ?_)
  exact hL3 _ _ fu _ _ h _ _ _ hP (lv_sub hl [1, 2, 3, 4, 0] rfl)
set_option maxRecDepth 100000 in
set_option maxHeartbeats 4000000 in
theorem c_X6_looksBack (l : Launch) (P : Pl) (hA : Adr P) (hn : 36 ≤ P.2.2.2.1) (w : Wo) {r : Wo} (h : F_X6_looksBack w = some r) : CtV l P yX6_looksBack cX6_looksBack 1 none 1 [.ref (P.2.1 26)] w r := by
  have hlt : ∀ h, h < 36 → h < P.2.2.2.1 := fun h q => Nat.lt_of_lt_of_le q hn
  refine vs_met hA (by decide +kernel) (Nat.le_of_ble_eq_true rfl) (fun p e s m args below meth c ls S hF hP hl hr hk => ?_)
  have hx := S.1
  have hb := S.2.1
  replace hl : lv_has ls 1 [(0, .ref (P.2.1 26))] := hl
  unfold F_X6_looksBack at h
  refine lv_aload_n hx hb dX6_looksBack_0 rfl (lv_at hl 0 rfl) ?_
  refine vt_getR (r := 27) S hF hP (k := 0) (ci := 6) 26 (hlt _ (by decide)) rfl (by decide) rfl (by decide) rfl rfl (inC_X6 _) (List.mem_cons_of_mem _ fl_X6_7) dX6_looksBack_1 ?_
  refine lv_iconst (v := 0) hx hb dX6_looksBack_4 (by decide) ?_
  refine lv_aload_n hx hb dX6_looksBack_5 rfl (lv_at hl 0 rfl) ?_
  refine vt_getR (r := 28) S hF hP (k := 1) (ci := 6) 26 (hlt _ (by decide)) rfl (by decide) rfl (by decide) rfl rfl (inC_X6 _) (List.mem_cons_of_mem _ fl_X6_13) dX6_looksBack_6 ?_
  refine lv_iconst (v := 0) hx hb dX6_looksBack_9 (by decide) ?_
  obtain ⟨q1, hq1, h⟩ := ob h
  refine vu_v hP (vu_S S hF hP (c_X6_copy l P hA hn 27 32 28 32 rfl (by decide) rfl (by decide) w 0 0 hq1) ok_X6_copy ml_X6_59 ⟨Nat.le_of_ble_eq_true rfl, Nat.le_of_ble_eq_true rfl⟩ rfl hl.1 rfl (Nat.le_of_ble_eq_true rfl) dX6_looksBack_10 ⟨Nat.le_of_ble_eq_true rfl, Nat.le_of_ble_eq_true rfl⟩) (fun H locs hP => ?_)
  obtain rfl := Option.some.inj h
  exact ve_v S hF hP hr hk dX6_looksBack_13
set_option maxRecDepth 100000 in
set_option maxHeartbeats 4000000 in
theorem c_X6_kept (l : Launch) (P : Pl) (hA : Adr P) (hn : 36 ≤ P.2.2.2.1) (w : Wo) (x1 : Int32) {r : Int32 × Wo} (h : F_X6_kept w x1 = some r) : CtI l P yX6_kept cX6_kept 3 (some .int) 1 [.ref (P.2.1 26), .int x1] w r.1 r.2 := by
  have hlt : ∀ h, h < 36 → h < P.2.2.2.1 := fun h q => Nat.lt_of_lt_of_le q hn
  refine vs_met hA (by decide +kernel) (Nat.le_of_ble_eq_true rfl) (fun p e s m args below meth c ls S hF hP hl hr hk => ?_)
  have hx := S.1
  have hb := S.2.1
  replace hl : lv_has ls 3 [(0, .ref (P.2.1 26)), (1, .int x1)] := hl
  have hB100 : ∀ (w : Wo) (x1 : Int32), B_X6_kept_100 w x1 = some r → ∀ (H : Heap) (locs : List Loc) (ls : Array Slot), St P s w H locs → lv_has ls 3 [(1, .int x1)] → W p l e (rmU 1 0 0) s m args below meth c H locs 0 0 (QI P (some .int) r.1 r.2 below args s) (F0 m 100 ls []) := by
    intro w x1 h H locs ls hP hl
    unfold B_X6_kept_100 at h
    refine lv_iload_n hx hb dX6_kept_100 rfl (lv_at hl 0 rfl) ?_
    obtain rfl := Option.some.inj h
    exact ve_i (v := x1) S hF hP hr hk rfl dX6_kept_101
  have hB71 : ∀ (w : Wo) (x1 : Int32), B_X6_kept_71 w x1 = some r → ∀ (H : Heap) (locs : List Loc) (ls : Array Slot), St P s w H locs → lv_has ls 3 [(0, .ref (P.2.1 26)), (1, .int x1)] → W p l e (rmU 1 0 0) s m args below meth c H locs 0 0 (QI P (some .int) r.1 r.2 below args s) (F0 m 71 ls []) := by
    intro w x1 h H locs ls hP hl
    unfold B_X6_kept_71 at h
    refine lv_aload_n hx hb dX6_kept_71 rfl (lv_at hl 0 rfl) ?_
    refine vt_getR (r := 28) S hF hP (k := 1) (ci := 6) 26 (hlt _ (by decide)) rfl (by decide) rfl (by decide) rfl rfl (inC_X6 _) (List.mem_cons_of_mem _ fl_X6_13) dX6_kept_72 ?_
    refine lv_iconst (v := 0) hx hb dX6_kept_75 (by decide) ?_
    refine lv_aload_n hx hb dX6_kept_76 rfl (lv_at hl 0 rfl) ?_
    refine vt_getR (r := 29) S hF hP (k := 2) (ci := 6) 26 (hlt _ (by decide)) rfl (by decide) rfl (by decide) rfl rfl (inC_X6 _) (List.mem_cons_of_mem _ fl_X6_16) dX6_kept_77 ?_
    refine lv_aload_n hx hb dX6_kept_80 rfl (lv_at hl 0 rfl) ?_
    refine vt_getI S hF hP (k := 3) (ci := 6) 26 (hlt _ (by decide)) rfl (by decide) rfl (by decide) rfl (inC_X6 _) (List.mem_cons_of_mem _ fl_X6_63) dX6_kept_81 ?_
    refine lv_bipush (v := 32) hx hb dX6_kept_84 (by decide) ?_
    refine lv_imul hx hb dX6_kept_86 ?_
    obtain ⟨q1, hq1, h⟩ := ob h
    refine vu_v hP (vu_S S hF hP (c_X6_copy l P hA hn 28 32 29 256 rfl (by decide) rfl (by decide) w 0 ((gI w 26 3) * (32 : Int32)) hq1) ok_X6_copy ml_X6_59 ⟨Nat.le_of_ble_eq_true rfl, Nat.le_of_ble_eq_true rfl⟩ rfl hl.1 rfl (Nat.le_of_ble_eq_true rfl) dX6_kept_87 ⟨Nat.le_of_ble_eq_true rfl, Nat.le_of_ble_eq_true rfl⟩) (fun H locs hP => ?_)
    refine lv_aload_n hx hb dX6_kept_90 rfl (lv_at hl 0 rfl) ?_
    refine lv_dup hx hb dX6_kept_91 rfl ?_
    refine vt_getI S hF hP (k := 3) (ci := 6) 26 (hlt _ (by decide)) rfl (by decide) rfl (by decide) rfl (inC_X6 _) (List.mem_cons_of_mem _ fl_X6_63) dX6_kept_92 ?_
    refine lv_iconst (v := 1) hx hb dX6_kept_95 (by decide) ?_
    refine lv_iadd hx hb dX6_kept_96 ?_
    refine vt_putI S hF hP (k := 3) (ci := 6) 26 (hlt _ (by decide)) rfl (by decide) rfl (by decide) rfl tyX6 tyX6_ok nmX6 rfl rfl rfl rfl (by decide) (inC_X6 _) (List.mem_cons_of_mem _ fl_X6_63) dX6_kept_97 (fun H locs hP => ?_)
    exact hB100 _ _ h _ _ _ hP (lv_sub hl [1] rfl)
  have hB61 : ∀ (w : Wo) (x1 : Int32), B_X6_kept_61 w x1 = some r → ∀ (H : Heap) (locs : List Loc) (ls : Array Slot), St P s w H locs → lv_has ls 3 [(0, .ref (P.2.1 26)), (1, .int x1)] → W p l e (rmU 1 0 0) s m args below meth c H locs 0 0 (QI P (some .int) r.1 r.2 below args s) (F0 m 61 ls []) := by
    intro w x1 h H locs ls hP hl
    unfold B_X6_kept_61 at h
    refine lv_aload_n hx hb dX6_kept_61 rfl (lv_at hl 0 rfl) ?_
    refine lv_dup hx hb dX6_kept_62 rfl ?_
    refine vt_getI S hF hP (k := 3) (ci := 6) 26 (hlt _ (by decide)) rfl (by decide) rfl (by decide) rfl (inC_X6 _) (List.mem_cons_of_mem _ fl_X6_63) dX6_kept_63 ?_
    refine lv_iconst (v := 1) hx hb dX6_kept_66 (by decide) ?_
    refine lv_isub hx hb dX6_kept_67 ?_
    refine vt_putI S hF hP (k := 3) (ci := 6) 26 (hlt _ (by decide)) rfl (by decide) rfl (by decide) rfl tyX6 tyX6_ok nmX6 rfl rfl rfl rfl (by decide) (inC_X6 _) (List.mem_cons_of_mem _ fl_X6_63) dX6_kept_68 (fun H locs hP => ?_)
    exact hB71 _ _ h _ _ _ hP (lv_sub hl [0, 1] rfl)
  have hL33 : ∀ (x1 : Int32) (n : Nat) (w : Wo) (x2 : Int32), jl2 (B_X6_kept_33 x1) n w x2 = some r → ∀ (H : Heap) (locs : List Loc) (ls : Array Slot), St P s w H locs → lv_has ls 3 [(0, .ref (P.2.1 26)), (1, .int x1), (2, .int x2)] → W p l e (rmU 1 0 0) s m args below meth c H locs 0 0 (QI P (some .int) r.1 r.2 below args s) (F0 m 33 ls []) := by
    intro x1
    intro n
    induction n with
    | zero =>
      intro w x2 h
      cases h
    | succ n ih33 =>
      intro w x2 h H locs ls hP hl
      replace h : B_X6_kept_33 x1 (jl2 (B_X6_kept_33 x1) n) w x2 = some r := h
      revert h ih33
      generalize jl2 (B_X6_kept_33 x1) n = k33
      intro ih33 h
      have hB55 : ∀ (w : Wo) (x2 : Int32), B_X6_kept_55 k33 w x1 x2 = some r → ∀ (H : Heap) (locs : List Loc) (ls : Array Slot), St P s w H locs → lv_has ls 3 [(0, .ref (P.2.1 26)), (1, .int x1), (2, .int x2)] → W p l e (rmU 1 0 0) s m args below meth c H locs 0 0 (QI P (some .int) r.1 r.2 below args s) (F0 m 55 ls []) := by
        intro w x2 h H locs ls hP hl
        unfold B_X6_kept_55 at h
        refine lv_iinc (v := (x2 + 1)) (lv' := [(2, .int (x2 + 1)), (0, .ref (P.2.1 26)), (1, .int x1)]) hx hb dX6_kept_55 hl (k := 2) rfl rfl (by decide) rfl (fun ls hl => ?_)
        refine lv_goto (tgt := 33) hx hb dX6_kept_58 (by decide) ?_
        exact ih33 _ _ h _ _ _ hP (lv_sub hl [1, 2, 0] rfl)
      unfold B_X6_kept_33 at h
      refine lv_iload_n hx hb dX6_kept_33 rfl (lv_at hl 2 rfl) ?_
      refine lv_sipush (v := 224) hx hb dX6_kept_34 (by decide) ?_
      refine lv_icmp_ge (tgt := 61) hx hb dX6_kept_37 (by decide) (fun c3 => ?_) (fun c3 => ?_)
      · rw [if_pos c3] at h
        exact hB61 _ _ h _ _ _ hP (lv_sub hl [0, 1] rfl)
      · rw [if_neg c3] at h
        refine lv_aload_n hx hb dX6_kept_40 rfl (lv_at hl 0 rfl) ?_
        refine vt_getR (r := 29) S hF hP (k := 2) (ci := 6) 26 (hlt _ (by decide)) rfl (by decide) rfl (by decide) rfl rfl (inC_X6 _) (List.mem_cons_of_mem _ fl_X6_16) dX6_kept_41 ?_
        refine lv_iload_n hx hb dX6_kept_44 rfl (lv_at hl 2 rfl) ?_
        refine lv_aload_n hx hb dX6_kept_45 rfl (lv_at hl 0 rfl) ?_
        refine vt_getR (r := 29) S hF hP (k := 2) (ci := 6) 26 (hlt _ (by decide)) rfl (by decide) rfl (by decide) rfl rfl (inC_X6 _) (List.mem_cons_of_mem _ fl_X6_16) dX6_kept_46 ?_
        refine lv_iload_n hx hb dX6_kept_49 rfl (lv_at hl 2 rfl) ?_
        refine lv_bipush (v := 32) hx hb dX6_kept_50 (by decide) ?_
        refine lv_iadd hx hb dX6_kept_52 ?_
        obtain ⟨c4, h⟩ := chk h
        refine vt_iald S hF hP (hlt _ (by decide)) rfl c4 dX6_kept_53 ?_
        obtain ⟨c5, h⟩ := chk h
        refine vt_iast S hF hP (hlt _ (by decide)) rfl c5 dX6_kept_54 (fun H locs hP => ?_)
        exact hB55 _ _ h _ _ _ hP (lv_sub hl [0, 1, 2] rfl)
  unfold F_X6_kept at h
  refine lv_aload_n hx hb dX6_kept_0 rfl (lv_at hl 0 rfl) ?_
  refine vt_getI S hF hP (k := 14) (ci := 6) 26 (hlt _ (by decide)) rfl (by decide) rfl (by decide) rfl (inC_X6 _) (List.mem_cons_of_mem _ fl_X6_46) dX6_kept_1 ?_
  refine lv_if_eq (tgt := 22) hx hb dX6_kept_4 (by decide) (fun c6 => ?_) (fun c6 => ?_)
  · rw [if_pos c6] at h
    refine lv_aload_n hx hb dX6_kept_22 rfl (lv_at hl 0 rfl) ?_
    refine vt_getI S hF hP (k := 3) (ci := 6) 26 (hlt _ (by decide)) rfl (by decide) rfl (by decide) rfl (inC_X6 _) (List.mem_cons_of_mem _ fl_X6_63) dX6_kept_23 ?_
    refine lv_bipush (v := 8) hx hb dX6_kept_26 (by decide) ?_
    refine lv_icmp_ne (tgt := 71) hx hb dX6_kept_28 (by decide) (fun c7 => ?_) (fun c7 => ?_)
    · rw [if_neg c7] at h
      exact hB71 _ _ h _ _ _ hP (lv_sub hl [0, 1] rfl)
    · rw [if_pos c7] at h
      refine lv_iconst (v := 0) hx hb dX6_kept_31 (by decide) ?_
      refine lv_istore_n (lv' := [(2, .int 0), (0, .ref (P.2.1 26)), (1, .int x1)]) hx hb dX6_kept_32 rfl hl (by decide) rfl (fun ls hl => ?_)
      exact hL33 _ fu _ _ h _ _ _ hP (lv_sub hl [1, 2, 0] rfl)
  · rw [if_neg c6] at h
    refine lv_aload_n hx hb dX6_kept_7 rfl (lv_at hl 0 rfl) ?_
    refine vt_getR (r := 28) S hF hP (k := 1) (ci := 6) 26 (hlt _ (by decide)) rfl (by decide) rfl (by decide) rfl rfl (inC_X6 _) (List.mem_cons_of_mem _ fl_X6_13) dX6_kept_8 ?_
    refine lv_iconst (v := 0) hx hb dX6_kept_11 (by decide) ?_
    refine lv_aload_n hx hb dX6_kept_12 rfl (lv_at hl 0 rfl) ?_
    refine vt_getR (r := 27) S hF hP (k := 0) (ci := 6) 26 (hlt _ (by decide)) rfl (by decide) rfl (by decide) rfl rfl (inC_X6 _) (List.mem_cons_of_mem _ fl_X6_7) dX6_kept_13 ?_
    refine lv_iconst (v := 0) hx hb dX6_kept_16 (by decide) ?_
    obtain ⟨q2, hq2, h⟩ := ob h
    refine vu_v hP (vu_S S hF hP (c_X6_copy l P hA hn 28 32 27 32 rfl (by decide) rfl (by decide) w 0 0 hq2) ok_X6_copy ml_X6_59 ⟨Nat.le_of_ble_eq_true rfl, Nat.le_of_ble_eq_true rfl⟩ rfl hl.1 rfl (Nat.le_of_ble_eq_true rfl) dX6_kept_17 ⟨Nat.le_of_ble_eq_true rfl, Nat.le_of_ble_eq_true rfl⟩) (fun H locs hP => ?_)
    refine lv_iconst (v := 0) hx hb dX6_kept_20 (by decide) ?_
    obtain rfl := Option.some.inj h
    exact ve_i (v := 0) S hF hP hr hk rfl dX6_kept_21
set_option maxRecDepth 100000 in
set_option maxHeartbeats 4000000 in
theorem c_X6_places (l : Launch) (P : Pl) (hA : Adr P) (hn : 36 ≤ P.2.2.2.1) (w : Wo) {r : Int32} (h : F_X6_places w = some r) : CtI l P yX6_places cX6_places 1 (some .int) 0 [.ref (P.2.1 26)] w r w := by
  have hlt : ∀ h, h < 36 → h < P.2.2.2.1 := fun h q => Nat.lt_of_lt_of_le q hn
  refine vs_met hA (by decide +kernel) (Nat.le_of_ble_eq_true rfl) (fun p e s m args below meth c ls S hF hP hl hr hk => ?_)
  have hx := S.1
  have hb := S.2.1
  replace hl : lv_has ls 1 [(0, .ref (P.2.1 26))] := hl
  unfold F_X6_places at h
  refine lv_aload_n hx hb dX6_places_0 rfl (lv_at hl 0 rfl) ?_
  refine vt_getR (r := 27) S hF hP (k := 0) (ci := 6) 26 (hlt _ (by decide)) rfl (by decide) rfl (by decide) rfl rfl (inC_X6 _) (List.mem_cons_of_mem _ fl_X6_7) dX6_places_1 ?_
  refine lv_iconst (v := 0) hx hb dX6_places_4 (by decide) ?_
  refine vt_ialdK 0 (by decide) S hF hP (hlt _ (by decide)) rfl (by decide) dX6_places_5 ?_
  refine lv_aload_n hx hb dX6_places_6 rfl (lv_at hl 0 rfl) ?_
  refine vt_getR (r := 27) S hF hP (k := 0) (ci := 6) 26 (hlt _ (by decide)) rfl (by decide) rfl (by decide) rfl rfl (inC_X6 _) (List.mem_cons_of_mem _ fl_X6_7) dX6_places_7 ?_
  refine lv_iconst (v := 1) hx hb dX6_places_10 (by decide) ?_
  refine vt_ialdK 1 (by decide) S hF hP (hlt _ (by decide)) rfl (by decide) dX6_places_11 ?_
  refine lv_imul hx hb dX6_places_12 ?_
  obtain rfl := Option.some.inj h
  exact ve_i (v := ((gI w 27 0) * (gI w 27 1))) S hF hP hr hk rfl dX6_places_13
set_option maxRecDepth 100000 in
set_option maxHeartbeats 4000000 in
theorem c_X6_lines (l : Launch) (P : Pl) (hA : Adr P) (hn : 36 ≤ P.2.2.2.1) (w : Wo) {r : Int32} (h : F_X6_lines w = some r) : CtI l P yX6_lines cX6_lines 1 (some .int) 0 [.ref (P.2.1 26)] w r w := by
  have hlt : ∀ h, h < 36 → h < P.2.2.2.1 := fun h q => Nat.lt_of_lt_of_le q hn
  refine vs_met hA (by decide +kernel) (Nat.le_of_ble_eq_true rfl) (fun p e s m args below meth c ls S hF hP hl hr hk => ?_)
  have hx := S.1
  have hb := S.2.1
  replace hl : lv_has ls 1 [(0, .ref (P.2.1 26))] := hl
  unfold F_X6_lines at h
  refine lv_aload_n hx hb dX6_lines_0 rfl (lv_at hl 0 rfl) ?_
  refine vt_getR (r := 27) S hF hP (k := 0) (ci := 6) 26 (hlt _ (by decide)) rfl (by decide) rfl (by decide) rfl rfl (inC_X6 _) (List.mem_cons_of_mem _ fl_X6_7) dX6_lines_1 ?_
  refine lv_iconst (v := 0) hx hb dX6_lines_4 (by decide) ?_
  refine vt_ialdK 0 (by decide) S hF hP (hlt _ (by decide)) rfl (by decide) dX6_lines_5 ?_
  refine lv_aload_n hx hb dX6_lines_6 rfl (lv_at hl 0 rfl) ?_
  refine vt_getR (r := 27) S hF hP (k := 0) (ci := 6) 26 (hlt _ (by decide)) rfl (by decide) rfl (by decide) rfl rfl (inC_X6 _) (List.mem_cons_of_mem _ fl_X6_7) dX6_lines_7 ?_
  refine lv_iconst (v := 1) hx hb dX6_lines_10 (by decide) ?_
  refine vt_ialdK 1 (by decide) S hF hP (hlt _ (by decide)) rfl (by decide) dX6_lines_11 ?_
  refine lv_iadd hx hb dX6_lines_12 ?_
  obtain rfl := Option.some.inj h
  exact ve_i (v := ((gI w 27 0) + (gI w 27 1))) S hF hP hr hk rfl dX6_lines_13
set_option maxRecDepth 100000 in
set_option maxHeartbeats 4000000 in
theorem c_X6_isPlace (l : Launch) (P : Pl) (hA : Adr P) (hn : 36 ≤ P.2.2.2.1) (w : Wo) (x1 : Int32) {r : Int32} (h : F_X6_isPlace w x1 = some r) : CtI l P yX6_isPlace cX6_isPlace 2 (some .boolean) 1 [.ref (P.2.1 26), .int x1] w r w := by
  have hlt : ∀ h, h < 36 → h < P.2.2.2.1 := fun h q => Nat.lt_of_lt_of_le q hn
  refine vs_met hA (by decide +kernel) (Nat.le_of_ble_eq_true rfl) (fun p e s m args below meth c ls S hF hP hl hr hk => ?_)
  have hx := S.1
  have hb := S.2.1
  replace hl : lv_has ls 2 [(0, .ref (P.2.1 26)), (1, .int x1)] := hl
  unfold F_X6_isPlace at h
  refine lv_iload_n hx hb dX6_isPlace_0 rfl (lv_at hl 1 rfl) ?_
  refine lv_iconst (v := 0) hx hb dX6_isPlace_1 (by decide) ?_
  refine lv_aload_n hx hb dX6_isPlace_2 rfl (lv_at hl 0 rfl) ?_
  obtain ⟨q1, hq1, h⟩ := ob h
  refine vu_i hP (vu_V S hF hP (h := 26) (hlt _ (by decide)) rfl (by decide) rfl (c_X6_places l P hA hn w hq1) ok_X6_places ml_X6_66 ⟨Nat.le_of_ble_eq_true rfl, Nat.le_of_ble_eq_true rfl⟩ rfl hl.1 rfl (Nat.le_of_ble_eq_true rfl) dX6_isPlace_3 ⟨Nat.le_of_ble_eq_true rfl, Nat.le_of_ble_eq_true rfl⟩) (fun H locs ho2 hP => ?_)
  refine lv_iconst (v := 1) hx hb dX6_isPlace_6 (by decide) ?_
  refine lv_isub hx hb dX6_isPlace_7 ?_
  refine vu_i hP (vu_S S hF hP (c_X6_in l P hA hn w x1 0 (q1 - (1 : Int32))) ok_X6_in ml_X6_70 ⟨Nat.le_of_ble_eq_true rfl, Nat.le_of_ble_eq_true rfl⟩ rfl hl.1 rfl (Nat.le_of_ble_eq_true rfl) dX6_isPlace_8 ⟨Nat.le_of_ble_eq_true rfl, Nat.le_of_ble_eq_true rfl⟩) (fun H locs ho3 hP => ?_)
  obtain rfl := Option.some.inj h
  exact ve_i (v := (F_X6_in x1 0 (q1 - (1 : Int32)))) S hF hP hr hk ho3 dX6_isPlace_11
set_option maxRecDepth 100000 in
set_option maxHeartbeats 4000000 in
theorem c_X6_isLine (l : Launch) (P : Pl) (hA : Adr P) (hn : 36 ≤ P.2.2.2.1) (w : Wo) (x1 : Int32) {r : Int32} (h : F_X6_isLine w x1 = some r) : CtI l P yX6_isLine cX6_isLine 2 (some .boolean) 1 [.ref (P.2.1 26), .int x1] w r w := by
  have hlt : ∀ h, h < 36 → h < P.2.2.2.1 := fun h q => Nat.lt_of_lt_of_le q hn
  refine vs_met hA (by decide +kernel) (Nat.le_of_ble_eq_true rfl) (fun p e s m args below meth c ls S hF hP hl hr hk => ?_)
  have hx := S.1
  have hb := S.2.1
  replace hl : lv_has ls 2 [(0, .ref (P.2.1 26)), (1, .int x1)] := hl
  unfold F_X6_isLine at h
  refine lv_iload_n hx hb dX6_isLine_0 rfl (lv_at hl 1 rfl) ?_
  refine lv_iconst (v := 0) hx hb dX6_isLine_1 (by decide) ?_
  refine lv_aload_n hx hb dX6_isLine_2 rfl (lv_at hl 0 rfl) ?_
  obtain ⟨q1, hq1, h⟩ := ob h
  refine vu_i hP (vu_V S hF hP (h := 26) (hlt _ (by decide)) rfl (by decide) rfl (c_X6_lines l P hA hn w hq1) ok_X6_lines ml_X6_74 ⟨Nat.le_of_ble_eq_true rfl, Nat.le_of_ble_eq_true rfl⟩ rfl hl.1 rfl (Nat.le_of_ble_eq_true rfl) dX6_isLine_3 ⟨Nat.le_of_ble_eq_true rfl, Nat.le_of_ble_eq_true rfl⟩) (fun H locs ho2 hP => ?_)
  refine lv_iconst (v := 1) hx hb dX6_isLine_6 (by decide) ?_
  refine lv_isub hx hb dX6_isLine_7 ?_
  refine vu_i hP (vu_S S hF hP (c_X6_in l P hA hn w x1 0 (q1 - (1 : Int32))) ok_X6_in ml_X6_70 ⟨Nat.le_of_ble_eq_true rfl, Nat.le_of_ble_eq_true rfl⟩ rfl hl.1 rfl (Nat.le_of_ble_eq_true rfl) dX6_isLine_8 ⟨Nat.le_of_ble_eq_true rfl, Nat.le_of_ble_eq_true rfl⟩) (fun H locs ho3 hP => ?_)
  obtain rfl := Option.some.inj h
  exact ve_i (v := (F_X6_in x1 0 (q1 - (1 : Int32)))) S hF hP hr hk ho3 dX6_isLine_11
set_option maxRecDepth 100000 in
set_option maxHeartbeats 4000000 in
theorem c_X6_isTurn (l : Launch) (P : Pl) (hA : Adr P) (hn : 36 ≤ P.2.2.2.1) (w : Wo) (x1 : Int32) {r : Int32} (h : F_X6_isTurn w x1 = some r) : CtI l P yX6_isTurn cX6_isTurn 2 (some .boolean) 1 [.ref (P.2.1 26), .int x1] w r w := by
  have hlt : ∀ h, h < 36 → h < P.2.2.2.1 := fun h q => Nat.lt_of_lt_of_le q hn
  refine vs_met hA (by decide +kernel) (Nat.le_of_ble_eq_true rfl) (fun p e s m args below meth c ls S hF hP hl hr hk => ?_)
  have hx := S.1
  have hb := S.2.1
  replace hl : lv_has ls 2 [(0, .ref (P.2.1 26)), (1, .int x1)] := hl
  unfold F_X6_isTurn at h
  refine lv_iload_n hx hb dX6_isTurn_0 rfl (lv_at hl 1 rfl) ?_
  refine lv_iconst (v := 0) hx hb dX6_isTurn_1 (by decide) ?_
  refine lv_iconst (v := 2) hx hb dX6_isTurn_2 (by decide) ?_
  refine lv_aload_n hx hb dX6_isTurn_3 rfl (lv_at hl 0 rfl) ?_
  obtain ⟨q1, hq1, h⟩ := ob h
  refine vu_i hP (vu_V S hF hP (h := 26) (hlt _ (by decide)) rfl (by decide) rfl (c_X6_lines l P hA hn w hq1) ok_X6_lines ml_X6_74 ⟨Nat.le_of_ble_eq_true rfl, Nat.le_of_ble_eq_true rfl⟩ rfl hl.1 rfl (Nat.le_of_ble_eq_true rfl) dX6_isTurn_4 ⟨Nat.le_of_ble_eq_true rfl, Nat.le_of_ble_eq_true rfl⟩) (fun H locs ho2 hP => ?_)
  refine lv_imul hx hb dX6_isTurn_7 ?_
  refine lv_iconst (v := 1) hx hb dX6_isTurn_8 (by decide) ?_
  refine lv_isub hx hb dX6_isTurn_9 ?_
  refine vu_i hP (vu_S S hF hP (c_X6_in l P hA hn w x1 0 (((2 : Int32) * q1) - (1 : Int32))) ok_X6_in ml_X6_70 ⟨Nat.le_of_ble_eq_true rfl, Nat.le_of_ble_eq_true rfl⟩ rfl hl.1 rfl (Nat.le_of_ble_eq_true rfl) dX6_isTurn_10 ⟨Nat.le_of_ble_eq_true rfl, Nat.le_of_ble_eq_true rfl⟩) (fun H locs ho3 hP => ?_)
  obtain rfl := Option.some.inj h
  exact ve_i (v := (F_X6_in x1 0 (((2 : Int32) * q1) - (1 : Int32)))) S hF hP hr hk ho3 dX6_isTurn_13
set_option maxRecDepth 100000 in
set_option maxHeartbeats 4000000 in
theorem c_X6_boards (l : Launch) (P : Pl) (hA : Adr P) (hn : 36 ≤ P.2.2.2.1) (w : Wo) (x1 : Int32) (x2 : Int32) {r : Int32 × Wo} (h : F_X6_boards w x1 x2 = some r) : CtI l P yX6_boards cX6_boards 3 (some .int) 1 [.ref (P.2.1 26), .int x1, .int x2] w r.1 r.2 := by
  have hlt : ∀ h, h < 36 → h < P.2.2.2.1 := fun h q => Nat.lt_of_lt_of_le q hn
  refine vs_met hA (by decide +kernel) (Nat.le_of_ble_eq_true rfl) (fun p e s m args below meth c ls S hF hP hl hr hk => ?_)
  have hx := S.1
  have hb := S.2.1
  replace hl : lv_has ls 3 [(0, .ref (P.2.1 26)), (1, .int x1), (2, .int x2)] := hl
  have hB18 : ∀ (w : Wo), B_X6_boards_18 w = some r → ∀ (H : Heap) (locs : List Loc) (ls : Array Slot), St P s w H locs → lv_has ls 3 [(0, .ref (P.2.1 26))] → W p l e (rmU 1 0 0) s m args below meth c H locs 0 0 (QI P (some .int) r.1 r.2 below args s) (F0 m 18 ls []) := by
    intro w h H locs ls hP hl
    unfold B_X6_boards_18 at h
    refine lv_aload_n hx hb dX6_boards_18 rfl (lv_at hl 0 rfl) ?_
    refine lv_iconst (v := 1) hx hb dX6_boards_19 (by decide) ?_
    obtain ⟨q2, hq2, h⟩ := ob h
    refine vu_i hP (vu_V S hF hP (h := 26) (hlt _ (by decide)) rfl (by decide) rfl (c_X6_fails l P hA hn w 1 hq2) ok_X6_fails ml_X6_77 ⟨Nat.le_of_ble_eq_true rfl, Nat.le_of_ble_eq_true rfl⟩ rfl hl.1 rfl (Nat.le_of_ble_eq_true rfl) dX6_boards_20 ⟨Nat.le_of_ble_eq_true rfl, Nat.le_of_ble_eq_true rfl⟩) (fun H locs ho3 hP => ?_)
    obtain rfl := Option.some.inj h
    exact ve_i (v := q2.1) S hF hP hr hk rfl dX6_boards_23
  have hB41 : ∀ (w : Wo), B_X6_boards_41 w = some r → ∀ (H : Heap) (locs : List Loc) (ls : Array Slot), St P s w H locs → lv_has ls 3 [(0, .ref (P.2.1 26))] → W p l e (rmU 1 0 0) s m args below meth c H locs 0 0 (QI P (some .int) r.1 r.2 below args s) (F0 m 41 ls []) := by
    intro w h H locs ls hP hl
    unfold B_X6_boards_41 at h
    refine lv_aload_n hx hb dX6_boards_41 rfl (lv_at hl 0 rfl) ?_
    refine lv_aload_n hx hb dX6_boards_42 rfl (lv_at hl 0 rfl) ?_
    obtain ⟨q6, hq6, h⟩ := ob h
    refine vu_i hP (vu_V S hF hP (h := 26) (hlt _ (by decide)) rfl (by decide) rfl (c_X6_places l P hA hn w hq6) ok_X6_places ml_X6_66 ⟨Nat.le_of_ble_eq_true rfl, Nat.le_of_ble_eq_true rfl⟩ rfl hl.1 rfl (Nat.le_of_ble_eq_true rfl) dX6_boards_43 ⟨Nat.le_of_ble_eq_true rfl, Nat.le_of_ble_eq_true rfl⟩) (fun H locs ho7 hP => ?_)
    obtain ⟨q8, hq8, h⟩ := ob h
    refine vu_i hP (vu_V S hF hP (h := 26) (hlt _ (by decide)) rfl (by decide) rfl (c_X6_done l P hA hn w q6 hq8) ok_X6_done ml_X6_81 ⟨Nat.le_of_ble_eq_true rfl, Nat.le_of_ble_eq_true rfl⟩ rfl hl.1 rfl (Nat.le_of_ble_eq_true rfl) dX6_boards_46 ⟨Nat.le_of_ble_eq_true rfl, Nat.le_of_ble_eq_true rfl⟩) (fun H locs ho9 hP => ?_)
    obtain rfl := Option.some.inj h
    exact ve_i (v := q8.1) S hF hP hr hk rfl dX6_boards_49
  unfold F_X6_boards at h
  refine lv_iload_n hx hb dX6_boards_0 rfl (lv_at hl 1 rfl) ?_
  refine lv_iconst (v := 2) hx hb dX6_boards_1 (by decide) ?_
  refine lv_iconst (v := 3) hx hb dX6_boards_2 (by decide) ?_
  refine vu_i hP (vu_S S hF hP (c_X6_in l P hA hn w x1 2 3) ok_X6_in ml_X6_70 ⟨Nat.le_of_ble_eq_true rfl, Nat.le_of_ble_eq_true rfl⟩ rfl hl.1 rfl (Nat.le_of_ble_eq_true rfl) dX6_boards_3 ⟨Nat.le_of_ble_eq_true rfl, Nat.le_of_ble_eq_true rfl⟩) (fun H locs ho1 hP => ?_)
  refine lv_if_eq (tgt := 18) hx hb dX6_boards_6 (by decide) (fun c10 => ?_) (fun c10 => ?_)
  · rw [if_pos c10] at h
    exact hB18 _ h _ _ _ hP (lv_sub hl [0] rfl)
  · rw [if_neg c10] at h
    refine lv_iload_n hx hb dX6_boards_9 rfl (lv_at hl 2 rfl) ?_
    refine lv_iconst (v := 2) hx hb dX6_boards_10 (by decide) ?_
    refine lv_iconst (v := 3) hx hb dX6_boards_11 (by decide) ?_
    refine vu_i hP (vu_S S hF hP (c_X6_in l P hA hn w x2 2 3) ok_X6_in ml_X6_70 ⟨Nat.le_of_ble_eq_true rfl, Nat.le_of_ble_eq_true rfl⟩ rfl hl.1 rfl (Nat.le_of_ble_eq_true rfl) dX6_boards_12 ⟨Nat.le_of_ble_eq_true rfl, Nat.le_of_ble_eq_true rfl⟩) (fun H locs ho4 hP => ?_)
    refine lv_if_ne (tgt := 24) hx hb dX6_boards_15 (by decide) (fun c11 => ?_) (fun c11 => ?_)
    · rw [if_neg c11] at h
      refine lv_aload_n hx hb dX6_boards_24 rfl (lv_at hl 0 rfl) ?_
      refine lv_iload_n hx hb dX6_boards_25 rfl (lv_at hl 1 rfl) ?_
      refine lv_iload_n hx hb dX6_boards_26 rfl (lv_at hl 2 rfl) ?_
      obtain ⟨q5, hq5, h⟩ := ob h
      refine vu_v hP (vu_V S hF hP (h := 26) (hlt _ (by decide)) rfl (by decide) rfl (c_X6_lays l P hA hn w x1 x2 hq5) ok_X6_lays ml_X6_42 ⟨Nat.le_of_ble_eq_true rfl, Nat.le_of_ble_eq_true rfl⟩ rfl hl.1 rfl (Nat.le_of_ble_eq_true rfl) dX6_boards_27 ⟨Nat.le_of_ble_eq_true rfl, Nat.le_of_ble_eq_true rfl⟩) (fun H locs hP => ?_)
      refine lv_aload_n hx hb dX6_boards_30 rfl (lv_at hl 0 rfl) ?_
      refine vt_getR (r := 27) S hF hP (k := 0) (ci := 6) 26 (hlt _ (by decide)) rfl (by decide) rfl (by decide) rfl rfl (inC_X6 _) (List.mem_cons_of_mem _ fl_X6_7) dX6_boards_31 ?_
      refine lv_bipush (v := 6) hx hb dX6_boards_34 (by decide) ?_
      refine lv_dup2_11 hx hb dX6_boards_36 rfl rfl ?_
      refine vt_ialdK 6 (by decide) S hF hP (hlt _ (by decide)) rfl (by decide) dX6_boards_37 ?_
      refine lv_iconst (v := 1) hx hb dX6_boards_38 (by decide) ?_
      refine lv_iadd hx hb dX6_boards_39 ?_
      refine vt_iastK 6 (by decide) S hF hP (hlt _ (by decide)) rfl (by decide) dX6_boards_40 (fun H locs hP => ?_)
      exact hB41 _ h _ _ _ hP (lv_sub hl [0] rfl)
    · rw [if_pos c11] at h
      exact hB18 _ h _ _ _ hP (lv_sub hl [0] rfl)
set_option maxRecDepth 100000 in
set_option maxHeartbeats 4000000 in
theorem c_X6_board (l : Launch) (P : Pl) (hA : Adr P) (hn : 36 ≤ P.2.2.2.1) (w : Wo) (x1 : Int32) (x2 : Int32) {r : Int32 × Wo} (h : F_X6_board w x1 x2 = some r) : CtI l P yX6_board cX6_board 3 (some .int) 2 [.ref (P.2.1 26), .int x1, .int x2] w r.1 r.2 := by
  have hlt : ∀ h, h < 36 → h < P.2.2.2.1 := fun h q => Nat.lt_of_lt_of_le q hn
  refine vs_met hA (by decide +kernel) (Nat.le_of_ble_eq_true rfl) (fun p e s m args below meth c ls S hF hP hl hr hk => ?_)
  have hx := S.1
  have hb := S.2.1
  replace hl : lv_has ls 3 [(0, .ref (P.2.1 26)), (1, .int x1), (2, .int x2)] := hl
  unfold F_X6_board at h
  refine lv_aload_n hx hb dX6_board_0 rfl (lv_at hl 0 rfl) ?_
  obtain ⟨q1, hq1, h⟩ := ob h
  refine vu_v hP (vu_V S hF hP (h := 26) (hlt _ (by decide)) rfl (by decide) rfl (c_X6_looksBack l P hA hn w hq1) ok_X6_looksBack ml_X6_84 ⟨Nat.le_of_ble_eq_true rfl, Nat.le_of_ble_eq_true rfl⟩ rfl hl.1 rfl (Nat.le_of_ble_eq_true rfl) dX6_board_1 ⟨Nat.le_of_ble_eq_true rfl, Nat.le_of_ble_eq_true rfl⟩) (fun H locs hP => ?_)
  refine lv_aload_n hx hb dX6_board_4 rfl (lv_at hl 0 rfl) ?_
  refine lv_aload_n hx hb dX6_board_5 rfl (lv_at hl 0 rfl) ?_
  refine lv_iload_n hx hb dX6_board_6 rfl (lv_at hl 1 rfl) ?_
  refine lv_iload_n hx hb dX6_board_7 rfl (lv_at hl 2 rfl) ?_
  obtain ⟨q2, hq2, h⟩ := ob h
  refine vu_i hP (vu_V S hF hP (h := 26) (hlt _ (by decide)) rfl (by decide) rfl (c_X6_boards l P hA hn q1 x1 x2 hq2) ok_X6_boards ml_X6_87 ⟨Nat.le_of_ble_eq_true rfl, Nat.le_of_ble_eq_true rfl⟩ rfl hl.1 rfl (Nat.le_of_ble_eq_true rfl) dX6_board_8 ⟨Nat.le_of_ble_eq_true rfl, Nat.le_of_ble_eq_true rfl⟩) (fun H locs ho3 hP => ?_)
  obtain ⟨q4, hq4, h⟩ := ob h
  refine vu_i hP (vu_V S hF hP (h := 26) (hlt _ (by decide)) rfl (by decide) rfl (c_X6_kept l P hA hn q2.2 q2.1 hq4) ok_X6_kept ml_X6_91 ⟨Nat.le_of_ble_eq_true rfl, Nat.le_of_ble_eq_true rfl⟩ rfl hl.1 rfl (Nat.le_of_ble_eq_true rfl) dX6_board_11 ⟨Nat.le_of_ble_eq_true rfl, Nat.le_of_ble_eq_true rfl⟩) (fun H locs ho5 hP => ?_)
  obtain rfl := Option.some.inj h
  exact ve_i (v := q4.1) S hF hP hr hk rfl dX6_board_14
set_option maxRecDepth 100000 in
set_option maxHeartbeats 4000000 in
theorem c_X6_isLetter (l : Launch) (P : Pl) (hA : Adr P) (hn : 36 ≤ P.2.2.2.1) (w : Wo) (x0 : Int32) : CtI l P yX6_isLetter cX6_isLetter 1 (some .boolean) 1 [.int x0] w (F_X6_isLetter x0) w := by
  have hlt : ∀ h, h < 36 → h < P.2.2.2.1 := fun h q => Nat.lt_of_lt_of_le q hn
  obtain ⟨r, h⟩ : ∃ r, F_X6_isLetter x0 = r := ⟨_, rfl⟩
  rw [h]
  refine vs_met hA (by decide +kernel) (Nat.le_of_ble_eq_true rfl) (fun p e s m args below meth c ls S hF hP hl hr hk => ?_)
  have hx := S.1
  have hb := S.2.1
  replace hl : lv_has ls 1 [(0, .int x0)] := hl
  unfold F_X6_isLetter at h
  refine lv_iload_n hx hb dX6_isLetter_0 rfl (lv_at hl 0 rfl) ?_
  refine lv_bipush (v := 97) hx hb dX6_isLetter_1 (by decide) ?_
  refine lv_bipush (v := 108) hx hb dX6_isLetter_3 (by decide) ?_
  refine vu_i hP (vu_S S hF hP (c_X6_in l P hA hn w x0 97 108) ok_X6_in ml_X6_70 ⟨Nat.le_of_ble_eq_true rfl, Nat.le_of_ble_eq_true rfl⟩ rfl hl.1 rfl (Nat.le_of_ble_eq_true rfl) dX6_isLetter_5 ⟨Nat.le_of_ble_eq_true rfl, Nat.le_of_ble_eq_true rfl⟩) (fun H locs ho1 hP => ?_)
  subst h
  exact ve_i (v := (F_X6_in x0 97 108)) S hF hP hr hk ho1 dX6_isLetter_8
set_option maxRecDepth 100000 in
set_option maxHeartbeats 4000000 in
theorem c_X6_signOf (l : Launch) (P : Pl) (hA : Adr P) (hn : 36 ≤ P.2.2.2.1) (w : Wo) (x0 : Int32) : CtI l P yX6_signOf cX6_signOf 1 (some .char) 0 [.int x0] w (F_X6_signOf x0) w := by
  have hlt : ∀ h, h < 36 → h < P.2.2.2.1 := fun h q => Nat.lt_of_lt_of_le q hn
  obtain ⟨r, h⟩ : ∃ r, F_X6_signOf x0 = r := ⟨_, rfl⟩
  rw [h]
  refine vs_met hA (by decide +kernel) (Nat.le_of_ble_eq_true rfl) (fun p e s m args below meth c ls S hF hP hl hr hk => ?_)
  have hx := S.1
  have hb := S.2.1
  replace hl : lv_has ls 1 [(0, .int x0)] := hl
  unfold F_X6_signOf at h
  refine lv_iload_n hx hb dX6_signOf_0 rfl (lv_at hl 0 rfl) ?_
  refine lv_iconst (v := (-1)) hx hb dX6_signOf_1 (by decide) ?_
  refine lv_icmp_ne (tgt := 10) hx hb dX6_signOf_2 (by decide) (fun c1 => ?_) (fun c1 => ?_)
  · rw [if_neg c1] at h
    refine lv_bipush (v := 97) hx hb dX6_signOf_10 (by decide) ?_
    refine lv_iload_n hx hb dX6_signOf_12 rfl (lv_at hl 0 rfl) ?_
    refine lv_iadd hx hb dX6_signOf_13 ?_
    refine lv_i2c hx hb dX6_signOf_14 rfl ?_
    subst h
    exact ve_i (v := (ji2c ((97 : Int32) + x0))) S hF hP hr hk (pk_nc _) dX6_signOf_15
  · rw [if_pos c1] at h
    refine lv_bipush (v := 46) hx hb dX6_signOf_5 (by decide) ?_
    refine lv_goto (tgt := 15) hx hb dX6_signOf_7 (by decide) ?_
    subst h
    exact ve_i (v := 46) S hF hP hr hk rfl dX6_signOf_15
set_option maxRecDepth 100000 in
set_option maxHeartbeats 4000000 in
theorem c_X6_tells (l : Launch) (P : Pl) (hA : Adr P) (hn : 36 ≤ P.2.2.2.1) (w : Wo) (x1 : Int32) (x2 : Int32) (x3 : Int32) {r : Int32 × Wo} (h : F_X6_tells w x1 x2 x3 = some r) : CtI l P yX6_tells cX6_tells 5 (some .int) 1 [.ref (P.2.1 26), .int x1, .int x2, .int x3] w r.1 r.2 := by
  have hlt : ∀ h, h < 36 → h < P.2.2.2.1 := fun h q => Nat.lt_of_lt_of_le q hn
  refine vs_met hA (by decide +kernel) (Nat.le_of_ble_eq_true rfl) (fun p e s m args below meth c ls S hF hP hl hr hk => ?_)
  have hx := S.1
  have hb := S.2.1
  replace hl : lv_has ls 5 [(0, .ref (P.2.1 26)), (1, .int x1), (2, .int x2), (3, .int x3)] := hl
  have hB33 : ∀ (w : Wo) (x4 : Int32), B_X6_tells_33 w x4 = some r → ∀ (H : Heap) (locs : List Loc) (ls : Array Slot), St P s w H locs → lv_has ls 5 [(0, .ref (P.2.1 26)), (4, .int x4)] → W p l e (rmU 1 0 0) s m args below meth c H locs 0 0 (QI P (some .int) r.1 r.2 below args s) (F0 m 33 ls []) := by
    intro w x4 h H locs ls hP hl
    unfold B_X6_tells_33 at h
    refine lv_aload_n hx hb dX6_tells_33 rfl (lv_at hl 0 rfl) ?_
    refine lv_iload hx hb dX6_tells_34 (lv_at hl 1 rfl) ?_
    refine vu_i hP (vu_S S hF hP (c_X6_signOf l P hA hn w x4) ok_X6_signOf ml_X6_98 ⟨Nat.le_of_ble_eq_true rfl, Nat.le_of_ble_eq_true rfl⟩ rfl hl.1 rfl (Nat.le_of_ble_eq_true rfl) dX6_tells_36 ⟨Nat.le_of_ble_eq_true rfl, Nat.le_of_ble_eq_true rfl⟩) (fun H locs ho1 hP => ?_)
    obtain ⟨q2, hq2, h⟩ := ob h
    refine vu_i hP (vu_V S hF hP (h := 26) (hlt _ (by decide)) rfl (by decide) rfl (c_X6_done l P hA hn w (F_X6_signOf x4) hq2) ok_X6_done ml_X6_81 ⟨Nat.le_of_ble_eq_true rfl, Nat.le_of_ble_eq_true rfl⟩ rfl hl.1 rfl (Nat.le_of_ble_eq_true rfl) dX6_tells_39 ⟨Nat.le_of_ble_eq_true rfl, Nat.le_of_ble_eq_true rfl⟩) (fun H locs ho3 hP => ?_)
    obtain rfl := Option.some.inj h
    exact ve_i (v := q2.1) S hF hP hr hk rfl dX6_tells_42
  have hB10 : ∀ (w : Wo) (x1 : Int32) (x2 : Int32) (x3 : Int32) (x4 : Int32), B_X6_tells_10 w x1 x2 x3 x4 = some r → ∀ (H : Heap) (locs : List Loc) (ls : Array Slot), St P s w H locs → lv_has ls 5 [(0, .ref (P.2.1 26)), (1, .int x1), (2, .int x2), (3, .int x3), (4, .int x4)] → W p l e (rmU 1 0 0) s m args below meth c H locs 0 0 (QI P (some .int) r.1 r.2 below args s) (F0 m 10 ls []) := by
    intro w x1 x2 x3 x4 h H locs ls hP hl
    unfold B_X6_tells_10 at h
    refine lv_iload hx hb dX6_tells_10 (lv_at hl 4 rfl) ?_
    refine lv_iload_n hx hb dX6_tells_12 rfl (lv_at hl 3 rfl) ?_
    refine lv_icmp_ne (tgt := 24) hx hb dX6_tells_13 (by decide) (fun c6 => ?_) (fun c6 => ?_)
    · rw [if_neg c6] at h
      refine lv_aload_n hx hb dX6_tells_24 rfl (lv_at hl 0 rfl) ?_
      refine vt_getR (r := 27) S hF hP (k := 0) (ci := 6) 26 (hlt _ (by decide)) rfl (by decide) rfl (by decide) rfl rfl (inC_X6 _) (List.mem_cons_of_mem _ fl_X6_7) dX6_tells_25 ?_
      refine lv_iload_n hx hb dX6_tells_28 rfl (lv_at hl 1 rfl) ?_
      refine lv_iload_n hx hb dX6_tells_29 rfl (lv_at hl 2 rfl) ?_
      refine lv_iadd hx hb dX6_tells_30 ?_
      refine lv_iload_n hx hb dX6_tells_31 rfl (lv_at hl 3 rfl) ?_
      obtain ⟨c7, h⟩ := chk h
      refine vt_iast S hF hP (hlt _ (by decide)) rfl c7 dX6_tells_32 (fun H locs hP => ?_)
      exact hB33 _ _ h _ _ _ hP (lv_sub hl [0, 4] rfl)
    · rw [if_pos c6] at h
      refine lv_aload_n hx hb dX6_tells_16 rfl (lv_at hl 0 rfl) ?_
      refine lv_iconst (v := 2) hx hb dX6_tells_17 (by decide) ?_
      refine lv_iload_n hx hb dX6_tells_18 rfl (lv_at hl 2 rfl) ?_
      refine lv_iconst (v := 3) hx hb dX6_tells_19 (by decide) ?_
      obtain ⟨q4, hq4, h⟩ := ob h
      refine vu_i hP (vu_V S hF hP (h := 26) (hlt _ (by decide)) rfl (by decide) rfl (c_X6_refused l P hA hn w 2 x2 3 hq4) ok_X6_refused ml_X6_94 ⟨Nat.le_of_ble_eq_true rfl, Nat.le_of_ble_eq_true rfl⟩ rfl hl.1 rfl (Nat.le_of_ble_eq_true rfl) dX6_tells_20 ⟨Nat.le_of_ble_eq_true rfl, Nat.le_of_ble_eq_true rfl⟩) (fun H locs ho5 hP => ?_)
      obtain rfl := Option.some.inj h
      exact ve_i (v := q4.1) S hF hP hr hk rfl dX6_tells_23
  unfold F_X6_tells at h
  refine lv_aload_n hx hb dX6_tells_0 rfl (lv_at hl 0 rfl) ?_
  refine vt_getR (r := 27) S hF hP (k := 0) (ci := 6) 26 (hlt _ (by decide)) rfl (by decide) rfl (by decide) rfl rfl (inC_X6 _) (List.mem_cons_of_mem _ fl_X6_7) dX6_tells_1 ?_
  refine lv_iload_n hx hb dX6_tells_4 rfl (lv_at hl 1 rfl) ?_
  refine lv_iload_n hx hb dX6_tells_5 rfl (lv_at hl 2 rfl) ?_
  refine lv_iadd hx hb dX6_tells_6 ?_
  obtain ⟨c8, h⟩ := chk h
  refine vt_iald S hF hP (hlt _ (by decide)) rfl c8 dX6_tells_7 ?_
  refine lv_istore (lv' := [(4, .int (gI w 27 (Int32.toNatClampNeg (x1 + x2)))), (0, .ref (P.2.1 26)), (1, .int x1), (2, .int x2), (3, .int x3)]) hx hb dX6_tells_8 hl (by decide) rfl (fun ls hl => ?_)
  exact hB10 _ _ _ _ _ h _ _ _ hP (lv_sub hl [1, 2, 3, 4, 0] rfl)
set_option maxRecDepth 100000 in
set_option maxHeartbeats 4000000 in
theorem c_X6_puts (l : Launch) (P : Pl) (hA : Adr P) (hn : 36 ≤ P.2.2.2.1) (w : Wo) (x1 : Int32) (x2 : Int32) {r : Int32 × Wo} (h : F_X6_puts w x1 x2 = some r) : CtI l P yX6_puts cX6_puts 3 (some .int) 2 [.ref (P.2.1 26), .int x1, .int x2] w r.1 r.2 := by
  have hlt : ∀ h, h < 36 → h < P.2.2.2.1 := fun h q => Nat.lt_of_lt_of_le q hn
  refine vs_met hA (by decide +kernel) (Nat.le_of_ble_eq_true rfl) (fun p e s m args below meth c ls S hF hP hl hr hk => ?_)
  have hx := S.1
  have hb := S.2.1
  replace hl : lv_has ls 3 [(0, .ref (P.2.1 26)), (1, .int x1), (2, .int x2)] := hl
  unfold F_X6_puts at h
  refine lv_aload_n hx hb dX6_puts_0 rfl (lv_at hl 0 rfl) ?_
  refine lv_iload_n hx hb dX6_puts_1 rfl (lv_at hl 1 rfl) ?_
  obtain ⟨q1, hq1, h⟩ := ob h
  refine vu_i hP (vu_V S hF hP (h := 26) (hlt _ (by decide)) rfl (by decide) rfl (c_X6_isPlace l P hA hn w x1 hq1) ok_X6_isPlace ml_X6_102 ⟨Nat.le_of_ble_eq_true rfl, Nat.le_of_ble_eq_true rfl⟩ rfl hl.1 rfl (Nat.le_of_ble_eq_true rfl) dX6_puts_2 ⟨Nat.le_of_ble_eq_true rfl, Nat.le_of_ble_eq_true rfl⟩) (fun H locs ho2 hP => ?_)
  refine lv_if_ne (tgt := 14) hx hb dX6_puts_5 (by decide) (fun c10 => ?_) (fun c10 => ?_)
  · rw [if_neg c10] at h
    refine lv_iload_n hx hb dX6_puts_14 rfl (lv_at hl 2 rfl) ?_
    refine vu_i hP (vu_S S hF hP (c_X6_isLetter l P hA hn w x2) ok_X6_isLetter ml_X6_106 ⟨Nat.le_of_ble_eq_true rfl, Nat.le_of_ble_eq_true rfl⟩ rfl hl.1 rfl (Nat.le_of_ble_eq_true rfl) dX6_puts_15 ⟨Nat.le_of_ble_eq_true rfl, Nat.le_of_ble_eq_true rfl⟩) (fun H locs ho3 hP => ?_)
    refine lv_if_eq (tgt := 35) hx hb dX6_puts_18 (by decide) (fun c11 => ?_) (fun c11 => ?_)
    · rw [if_pos c11] at h
      refine lv_aload_n hx hb dX6_puts_35 rfl (lv_at hl 0 rfl) ?_
      refine lv_iconst (v := 2) hx hb dX6_puts_36 (by decide) ?_
      obtain ⟨q4, hq4, h⟩ := ob h
      refine vu_i hP (vu_V S hF hP (h := 26) (hlt _ (by decide)) rfl (by decide) rfl (c_X6_fails l P hA hn w 2 hq4) ok_X6_fails ml_X6_77 ⟨Nat.le_of_ble_eq_true rfl, Nat.le_of_ble_eq_true rfl⟩ rfl hl.1 rfl (Nat.le_of_ble_eq_true rfl) dX6_puts_37 ⟨Nat.le_of_ble_eq_true rfl, Nat.le_of_ble_eq_true rfl⟩) (fun H locs ho5 hP => ?_)
      obtain rfl := Option.some.inj h
      exact ve_i (v := q4.1) S hF hP hr hk rfl dX6_puts_40
    · rw [if_neg c11] at h
      refine lv_aload_n hx hb dX6_puts_21 rfl (lv_at hl 0 rfl) ?_
      refine lv_bipush (v := 14) hx hb dX6_puts_22 (by decide) ?_
      refine lv_iload_n hx hb dX6_puts_24 rfl (lv_at hl 1 rfl) ?_
      refine lv_iload_n hx hb dX6_puts_25 rfl (lv_at hl 2 rfl) ?_
      refine lv_bipush (v := 97) hx hb dX6_puts_26 (by decide) ?_
      refine lv_isub hx hb dX6_puts_28 ?_
      obtain ⟨q6, hq6, h⟩ := ob h
      refine vu_i hP (vu_V S hF hP (h := 26) (hlt _ (by decide)) rfl (by decide) rfl (c_X6_tells l P hA hn w 14 x1 (x2 - (97 : Int32)) hq6) ok_X6_tells ml_X6_109 ⟨Nat.le_of_ble_eq_true rfl, Nat.le_of_ble_eq_true rfl⟩ rfl hl.1 rfl (Nat.le_of_ble_eq_true rfl) dX6_puts_29 ⟨Nat.le_of_ble_eq_true rfl, Nat.le_of_ble_eq_true rfl⟩) (fun H locs ho7 hP => ?_)
      refine lv_goto (tgt := 40) hx hb dX6_puts_32 (by decide) ?_
      obtain rfl := Option.some.inj h
      exact ve_i (v := q6.1) S hF hP hr hk rfl dX6_puts_40
  · rw [if_pos c10] at h
    refine lv_aload_n hx hb dX6_puts_8 rfl (lv_at hl 0 rfl) ?_
    refine lv_iconst (v := 1) hx hb dX6_puts_9 (by decide) ?_
    obtain ⟨q8, hq8, h⟩ := ob h
    refine vu_i hP (vu_V S hF hP (h := 26) (hlt _ (by decide)) rfl (by decide) rfl (c_X6_fails l P hA hn w 1 hq8) ok_X6_fails ml_X6_77 ⟨Nat.le_of_ble_eq_true rfl, Nat.le_of_ble_eq_true rfl⟩ rfl hl.1 rfl (Nat.le_of_ble_eq_true rfl) dX6_puts_10 ⟨Nat.le_of_ble_eq_true rfl, Nat.le_of_ble_eq_true rfl⟩) (fun H locs ho9 hP => ?_)
    obtain rfl := Option.some.inj h
    exact ve_i (v := q8.1) S hF hP hr hk rfl dX6_puts_13
set_option maxRecDepth 100000 in
set_option maxHeartbeats 4000000 in
theorem c_X6_put (l : Launch) (P : Pl) (hA : Adr P) (hn : 36 ≤ P.2.2.2.1) (w : Wo) (x1 : Int32) (x2 : Int32) {r : Int32 × Wo} (h : F_X6_put w x1 x2 = some r) : CtI l P yX6_put cX6_put 3 (some .char) 3 [.ref (P.2.1 26), .int x1, .int x2] w r.1 r.2 := by
  have hlt : ∀ h, h < 36 → h < P.2.2.2.1 := fun h q => Nat.lt_of_lt_of_le q hn
  refine vs_met hA (by decide +kernel) (Nat.le_of_ble_eq_true rfl) (fun p e s m args below meth c ls S hF hP hl hr hk => ?_)
  have hx := S.1
  have hb := S.2.1
  replace hl : lv_has ls 3 [(0, .ref (P.2.1 26)), (1, .int x1), (2, .int x2)] := hl
  unfold F_X6_put at h
  refine lv_aload_n hx hb dX6_put_0 rfl (lv_at hl 0 rfl) ?_
  obtain ⟨q1, hq1, h⟩ := ob h
  refine vu_v hP (vu_V S hF hP (h := 26) (hlt _ (by decide)) rfl (by decide) rfl (c_X6_looksBack l P hA hn w hq1) ok_X6_looksBack ml_X6_84 ⟨Nat.le_of_ble_eq_true rfl, Nat.le_of_ble_eq_true rfl⟩ rfl hl.1 rfl (Nat.le_of_ble_eq_true rfl) dX6_put_1 ⟨Nat.le_of_ble_eq_true rfl, Nat.le_of_ble_eq_true rfl⟩) (fun H locs hP => ?_)
  refine lv_aload_n hx hb dX6_put_4 rfl (lv_at hl 0 rfl) ?_
  refine lv_aload_n hx hb dX6_put_5 rfl (lv_at hl 0 rfl) ?_
  refine lv_iload_n hx hb dX6_put_6 rfl (lv_at hl 1 rfl) ?_
  refine lv_iload_n hx hb dX6_put_7 rfl (lv_at hl 2 rfl) ?_
  obtain ⟨q2, hq2, h⟩ := ob h
  refine vu_i hP (vu_V S hF hP (h := 26) (hlt _ (by decide)) rfl (by decide) rfl (c_X6_puts l P hA hn q1 x1 x2 hq2) ok_X6_puts ml_X6_112 ⟨Nat.le_of_ble_eq_true rfl, Nat.le_of_ble_eq_true rfl⟩ rfl hl.1 rfl (Nat.le_of_ble_eq_true rfl) dX6_put_8 ⟨Nat.le_of_ble_eq_true rfl, Nat.le_of_ble_eq_true rfl⟩) (fun H locs ho3 hP => ?_)
  obtain ⟨q4, hq4, h⟩ := ob h
  refine vu_i hP (vu_V S hF hP (h := 26) (hlt _ (by decide)) rfl (by decide) rfl (c_X6_kept l P hA hn q2.2 q2.1 hq4) ok_X6_kept ml_X6_91 ⟨Nat.le_of_ble_eq_true rfl, Nat.le_of_ble_eq_true rfl⟩ rfl hl.1 rfl (Nat.le_of_ble_eq_true rfl) dX6_put_11 ⟨Nat.le_of_ble_eq_true rfl, Nat.le_of_ble_eq_true rfl⟩) (fun H locs ho5 hP => ?_)
  refine lv_i2c hx hb dX6_put_14 rfl ?_
  obtain rfl := Option.some.inj h
  exact ve_i (v := (ji2c q4.1)) S hF hP hr hk (pk_nc _) dX6_put_15
set_option maxRecDepth 100000 in
set_option maxHeartbeats 4000000 in
theorem c_X6_goals (l : Launch) (P : Pl) (hA : Adr P) (hn : 36 ≤ P.2.2.2.1) (w : Wo) (x1 : Int32) (x2 : Int32) {r : Int32 × Wo} (h : F_X6_goals w x1 x2 = some r) : CtI l P yX6_goals cX6_goals 3 (some .int) 2 [.ref (P.2.1 26), .int x1, .int x2] w r.1 r.2 := by
  have hlt : ∀ h, h < 36 → h < P.2.2.2.1 := fun h q => Nat.lt_of_lt_of_le q hn
  refine vs_met hA (by decide +kernel) (Nat.le_of_ble_eq_true rfl) (fun p e s m args below meth c ls S hF hP hl hr hk => ?_)
  have hx := S.1
  have hb := S.2.1
  replace hl : lv_has ls 3 [(0, .ref (P.2.1 26)), (1, .int x1), (2, .int x2)] := hl
  have hB45 : ∀ (w : Wo) (t0 : Int32) (t1 : Int32) (t2 : Int32), B_X6_goals_45 w t0 t1 t2 = some r → ∀ (H : Heap) (locs : List Loc) (ls : Array Slot), St P s w H locs → lv_has ls 3 [] → W p l e (rmU 2 0 0) s m args below meth c H locs 0 0 (QI P (some .int) r.1 r.2 below args s) (F0 m 45 ls [.int t0, .int t1, .int t2, .ref (P.2.1 26)]) := by
    intro w t0 t1 t2 h H locs ls hP hl
    unfold B_X6_goals_45 at h
    obtain ⟨q4, hq4, h⟩ := ob h
    refine vu_i hP (vu_V S hF hP (h := 26) (hlt _ (by decide)) rfl (by decide) rfl (c_X6_tells l P hA hn w t2 t1 t0 hq4) ok_X6_tells ml_X6_109 ⟨Nat.le_of_ble_eq_true rfl, Nat.le_of_ble_eq_true rfl⟩ rfl hl.1 rfl (Nat.le_of_ble_eq_true rfl) dX6_goals_45 ⟨Nat.le_of_ble_eq_true rfl, Nat.le_of_ble_eq_true rfl⟩) (fun H locs ho5 hP => ?_)
    refine lv_goto (tgt := 56) hx hb dX6_goals_48 (by decide) ?_
    obtain rfl := Option.some.inj h
    exact ve_i (v := q4.1) S hF hP hr hk rfl dX6_goals_56
  have hB27 : ∀ (w : Wo) (x1 : Int32) (x2 : Int32), B_X6_goals_27 w x1 x2 = some r → ∀ (H : Heap) (locs : List Loc) (ls : Array Slot), St P s w H locs → lv_has ls 3 [(0, .ref (P.2.1 26)), (1, .int x1), (2, .int x2)] → W p l e (rmU 2 0 0) s m args below meth c H locs 0 0 (QI P (some .int) r.1 r.2 below args s) (F0 m 27 ls []) := by
    intro w x1 x2 h H locs ls hP hl
    unfold B_X6_goals_27 at h
    refine lv_aload_n hx hb dX6_goals_27 rfl (lv_at hl 0 rfl) ?_
    refine lv_bipush (v := 23) hx hb dX6_goals_28 (by decide) ?_
    refine lv_iload_n hx hb dX6_goals_30 rfl (lv_at hl 1 rfl) ?_
    refine lv_iload_n hx hb dX6_goals_31 rfl (lv_at hl 2 rfl) ?_
    refine lv_bipush (v := 46) hx hb dX6_goals_32 (by decide) ?_
    refine lv_icmp_ne (tgt := 41) hx hb dX6_goals_34 (by decide) (fun c10 => ?_) (fun c10 => ?_)
    · rw [if_neg c10] at h
      refine lv_iload_n hx hb dX6_goals_41 rfl (lv_at hl 2 rfl) ?_
      refine lv_bipush (v := 97) hx hb dX6_goals_42 (by decide) ?_
      refine lv_isub hx hb dX6_goals_44 ?_
      exact hB45 _ _ _ _ h _ _ _ hP (lv_sub hl [] rfl)
    · rw [if_pos c10] at h
      refine lv_iconst (v := (-1)) hx hb dX6_goals_37 (by decide) ?_
      refine lv_goto (tgt := 45) hx hb dX6_goals_38 (by decide) ?_
      exact hB45 _ _ _ _ h _ _ _ hP (lv_sub hl [] rfl)
  unfold F_X6_goals at h
  refine lv_aload_n hx hb dX6_goals_0 rfl (lv_at hl 0 rfl) ?_
  refine lv_iload_n hx hb dX6_goals_1 rfl (lv_at hl 1 rfl) ?_
  obtain ⟨q1, hq1, h⟩ := ob h
  refine vu_i hP (vu_V S hF hP (h := 26) (hlt _ (by decide)) rfl (by decide) rfl (c_X6_isPlace l P hA hn w x1 hq1) ok_X6_isPlace ml_X6_102 ⟨Nat.le_of_ble_eq_true rfl, Nat.le_of_ble_eq_true rfl⟩ rfl hl.1 rfl (Nat.le_of_ble_eq_true rfl) dX6_goals_2 ⟨Nat.le_of_ble_eq_true rfl, Nat.le_of_ble_eq_true rfl⟩) (fun H locs ho2 hP => ?_)
  refine lv_if_ne (tgt := 14) hx hb dX6_goals_5 (by decide) (fun c11 => ?_) (fun c11 => ?_)
  · rw [if_neg c11] at h
    refine lv_iload_n hx hb dX6_goals_14 rfl (lv_at hl 2 rfl) ?_
    refine vu_i hP (vu_S S hF hP (c_X6_isLetter l P hA hn w x2) ok_X6_isLetter ml_X6_106 ⟨Nat.le_of_ble_eq_true rfl, Nat.le_of_ble_eq_true rfl⟩ rfl hl.1 rfl (Nat.le_of_ble_eq_true rfl) dX6_goals_15 ⟨Nat.le_of_ble_eq_true rfl, Nat.le_of_ble_eq_true rfl⟩) (fun H locs ho3 hP => ?_)
    refine lv_if_ne (tgt := 27) hx hb dX6_goals_18 (by decide) (fun c12 => ?_) (fun c12 => ?_)
    · rw [if_neg c12] at h
      exact hB27 _ _ _ h _ _ _ hP (lv_sub hl [0, 1, 2] rfl)
    · rw [if_pos c12] at h
      refine lv_iload_n hx hb dX6_goals_21 rfl (lv_at hl 2 rfl) ?_
      refine lv_bipush (v := 46) hx hb dX6_goals_22 (by decide) ?_
      refine lv_icmp_ne (tgt := 51) hx hb dX6_goals_24 (by decide) (fun c13 => ?_) (fun c13 => ?_)
      · rw [if_neg c13] at h
        refine lv_aload_n hx hb dX6_goals_51 rfl (lv_at hl 0 rfl) ?_
        refine lv_iconst (v := 2) hx hb dX6_goals_52 (by decide) ?_
        obtain ⟨q6, hq6, h⟩ := ob h
        refine vu_i hP (vu_V S hF hP (h := 26) (hlt _ (by decide)) rfl (by decide) rfl (c_X6_fails l P hA hn w 2 hq6) ok_X6_fails ml_X6_77 ⟨Nat.le_of_ble_eq_true rfl, Nat.le_of_ble_eq_true rfl⟩ rfl hl.1 rfl (Nat.le_of_ble_eq_true rfl) dX6_goals_53 ⟨Nat.le_of_ble_eq_true rfl, Nat.le_of_ble_eq_true rfl⟩) (fun H locs ho7 hP => ?_)
        obtain rfl := Option.some.inj h
        exact ve_i (v := q6.1) S hF hP hr hk rfl dX6_goals_56
      · rw [if_pos c13] at h
        exact hB27 _ _ _ h _ _ _ hP (lv_sub hl [0, 1, 2] rfl)
  · rw [if_pos c11] at h
    refine lv_aload_n hx hb dX6_goals_8 rfl (lv_at hl 0 rfl) ?_
    refine lv_iconst (v := 1) hx hb dX6_goals_9 (by decide) ?_
    obtain ⟨q8, hq8, h⟩ := ob h
    refine vu_i hP (vu_V S hF hP (h := 26) (hlt _ (by decide)) rfl (by decide) rfl (c_X6_fails l P hA hn w 1 hq8) ok_X6_fails ml_X6_77 ⟨Nat.le_of_ble_eq_true rfl, Nat.le_of_ble_eq_true rfl⟩ rfl hl.1 rfl (Nat.le_of_ble_eq_true rfl) dX6_goals_10 ⟨Nat.le_of_ble_eq_true rfl, Nat.le_of_ble_eq_true rfl⟩) (fun H locs ho9 hP => ?_)
    obtain rfl := Option.some.inj h
    exact ve_i (v := q8.1) S hF hP hr hk rfl dX6_goals_13
set_option maxRecDepth 100000 in
set_option maxHeartbeats 4000000 in
theorem c_X6_goal (l : Launch) (P : Pl) (hA : Adr P) (hn : 36 ≤ P.2.2.2.1) (w : Wo) (x1 : Int32) (x2 : Int32) {r : Int32 × Wo} (h : F_X6_goal w x1 x2 = some r) : CtI l P yX6_goal cX6_goal 3 (some .char) 3 [.ref (P.2.1 26), .int x1, .int x2] w r.1 r.2 := by
  have hlt : ∀ h, h < 36 → h < P.2.2.2.1 := fun h q => Nat.lt_of_lt_of_le q hn
  refine vs_met hA (by decide +kernel) (Nat.le_of_ble_eq_true rfl) (fun p e s m args below meth c ls S hF hP hl hr hk => ?_)
  have hx := S.1
  have hb := S.2.1
  replace hl : lv_has ls 3 [(0, .ref (P.2.1 26)), (1, .int x1), (2, .int x2)] := hl
  unfold F_X6_goal at h
  refine lv_aload_n hx hb dX6_goal_0 rfl (lv_at hl 0 rfl) ?_
  obtain ⟨q1, hq1, h⟩ := ob h
  refine vu_v hP (vu_V S hF hP (h := 26) (hlt _ (by decide)) rfl (by decide) rfl (c_X6_looksBack l P hA hn w hq1) ok_X6_looksBack ml_X6_84 ⟨Nat.le_of_ble_eq_true rfl, Nat.le_of_ble_eq_true rfl⟩ rfl hl.1 rfl (Nat.le_of_ble_eq_true rfl) dX6_goal_1 ⟨Nat.le_of_ble_eq_true rfl, Nat.le_of_ble_eq_true rfl⟩) (fun H locs hP => ?_)
  refine lv_aload_n hx hb dX6_goal_4 rfl (lv_at hl 0 rfl) ?_
  refine lv_aload_n hx hb dX6_goal_5 rfl (lv_at hl 0 rfl) ?_
  refine lv_iload_n hx hb dX6_goal_6 rfl (lv_at hl 1 rfl) ?_
  refine lv_iload_n hx hb dX6_goal_7 rfl (lv_at hl 2 rfl) ?_
  obtain ⟨q2, hq2, h⟩ := ob h
  refine vu_i hP (vu_V S hF hP (h := 26) (hlt _ (by decide)) rfl (by decide) rfl (c_X6_goals l P hA hn q1 x1 x2 hq2) ok_X6_goals ml_X6_115 ⟨Nat.le_of_ble_eq_true rfl, Nat.le_of_ble_eq_true rfl⟩ rfl hl.1 rfl (Nat.le_of_ble_eq_true rfl) dX6_goal_8 ⟨Nat.le_of_ble_eq_true rfl, Nat.le_of_ble_eq_true rfl⟩) (fun H locs ho3 hP => ?_)
  obtain ⟨q4, hq4, h⟩ := ob h
  refine vu_i hP (vu_V S hF hP (h := 26) (hlt _ (by decide)) rfl (by decide) rfl (c_X6_kept l P hA hn q2.2 q2.1 hq4) ok_X6_kept ml_X6_91 ⟨Nat.le_of_ble_eq_true rfl, Nat.le_of_ble_eq_true rfl⟩ rfl hl.1 rfl (Nat.le_of_ble_eq_true rfl) dX6_goal_11 ⟨Nat.le_of_ble_eq_true rfl, Nat.le_of_ble_eq_true rfl⟩) (fun H locs ho5 hP => ?_)
  refine lv_i2c hx hb dX6_goal_14 rfl ?_
  obtain rfl := Option.some.inj h
  exact ve_i (v := (ji2c q4.1)) S hF hP hr hk (pk_nc _) dX6_goal_15
set_option maxRecDepth 100000 in
set_option maxHeartbeats 4000000 in
theorem c_X6_goes (l : Launch) (P : Pl) (hA : Adr P) (hn : 36 ≤ P.2.2.2.1) (w : Wo) (x1 : Int32) (x2 : Int32) {r : Int32} (h : F_X6_goes w x1 x2 = some r) : CtI l P yX6_goes cX6_goes 7 (some .int) 0 [.ref (P.2.1 26), .int x1, .int x2] w r w := by
  have hlt : ∀ h, h < 36 → h < P.2.2.2.1 := fun h q => Nat.lt_of_lt_of_le q hn
  refine vs_met hA (by decide +kernel) (Nat.le_of_ble_eq_true rfl) (fun p e s m args below meth c ls S hF hP hl hr hk => ?_)
  have hx := S.1
  have hb := S.2.1
  replace hl : lv_has ls 7 [(0, .ref (P.2.1 26)), (1, .int x1), (2, .int x2)] := hl
  have hB120 : ∀ (x3 : Int32) (x4 : Int32), B_X6_goes_120 w x3 x4 = some r → ∀ (H : Heap) (locs : List Loc) (ls : Array Slot), St P s w H locs → lv_has ls 7 [(0, .ref (P.2.1 26)), (3, .int x3), (4, .int x4)] → W p l e (rmU 0 0 0) s m args below meth c H locs 0 0 (QI P (some .int) r w below args s) (F0 m 120 ls []) := by
    intro x3 x4 h H locs ls hP hl
    unfold B_X6_goes_120 at h
    refine lv_iload_n hx hb dX6_goes_120 rfl (lv_at hl 1 rfl) ?_
    refine lv_aload_n hx hb dX6_goes_121 rfl (lv_at hl 0 rfl) ?_
    refine vt_getR (r := 27) S hF hP (k := 0) (ci := 6) 26 (hlt _ (by decide)) rfl (by decide) rfl (by decide) rfl rfl (inC_X6 _) (List.mem_cons_of_mem _ fl_X6_7) dX6_goes_122 ?_
    refine lv_iconst (v := 1) hx hb dX6_goes_125 (by decide) ?_
    refine vt_ialdK 1 (by decide) S hF hP (hlt _ (by decide)) rfl (by decide) dX6_goes_126 ?_
    refine lv_imul hx hb dX6_goes_127 ?_
    refine lv_iload hx hb dX6_goes_128 (lv_at hl 2 rfl) ?_
    refine lv_iadd hx hb dX6_goes_130 ?_
    obtain rfl := Option.some.inj h
    exact ve_i (v := ((x3 * (gI w 27 1)) + x4)) S hF hP hr hk rfl dX6_goes_131
  have hB119 : ∀ (x4 : Int32) (t0 : Int32), B_X6_goes_119 w x4 t0 = some r → ∀ (H : Heap) (locs : List Loc) (ls : Array Slot), St P s w H locs → lv_has ls 7 [(0, .ref (P.2.1 26)), (4, .int x4)] → W p l e (rmU 0 0 0) s m args below meth c H locs 0 0 (QI P (some .int) r w below args s) (F0 m 119 ls [.int t0]) := by
    intro x4 t0 h H locs ls hP hl
    unfold B_X6_goes_119 at h
    refine lv_istore_n (lv' := [(3, .int t0), (0, .ref (P.2.1 26)), (4, .int x4)]) hx hb dX6_goes_119 rfl hl (by decide) rfl (fun ls hl => ?_)
    exact hB120 _ _ h _ _ _ hP (lv_sub hl [1, 0, 2] rfl)
  have hB78 : ∀ (x3 : Int32) (t0 : Int32), B_X6_goes_78 w x3 t0 = some r → ∀ (H : Heap) (locs : List Loc) (ls : Array Slot), St P s w H locs → lv_has ls 7 [(0, .ref (P.2.1 26)), (3, .int x3)] → W p l e (rmU 0 0 0) s m args below meth c H locs 0 0 (QI P (some .int) r w below args s) (F0 m 78 ls [.int t0]) := by
    intro x3 t0 h H locs ls hP hl
    unfold B_X6_goes_78 at h
    refine lv_istore (lv' := [(4, .int t0), (0, .ref (P.2.1 26)), (3, .int x3)]) hx hb dX6_goes_78 hl (by decide) rfl (fun ls hl => ?_)
    refine lv_goto (tgt := 120) hx hb dX6_goes_80 (by decide) ?_
    exact hB120 _ _ h _ _ _ hP (lv_sub hl [1, 2, 0] rfl)
  have hB35 : ∀ (x3 : Int32) (x4 : Int32) (x5 : Int32) (t0 : Int32), B_X6_goes_35 w x3 x4 x5 t0 = some r → ∀ (H : Heap) (locs : List Loc) (ls : Array Slot), St P s w H locs → lv_has ls 7 [(0, .ref (P.2.1 26)), (3, .int x3), (4, .int x4), (5, .int x5)] → W p l e (rmU 0 0 0) s m args below meth c H locs 0 0 (QI P (some .int) r w below args s) (F0 m 35 ls [.int t0]) := by
    intro x3 x4 x5 t0 h H locs ls hP hl
    unfold B_X6_goes_35 at h
    refine lv_istore (lv' := [(6, .int t0), (0, .ref (P.2.1 26)), (3, .int x3), (4, .int x4), (5, .int x5)]) hx hb dX6_goes_35 hl (by decide) rfl (fun ls hl => ?_)
    refine lv_iload hx hb dX6_goes_37 (lv_at hl 4 rfl) ?_
    refine lv_aload_n hx hb dX6_goes_39 rfl (lv_at hl 1 rfl) ?_
    refine vt_getR (r := 27) S hF hP (k := 0) (ci := 6) 26 (hlt _ (by decide)) rfl (by decide) rfl (by decide) rfl rfl (inC_X6 _) (List.mem_cons_of_mem _ fl_X6_7) dX6_goes_40 ?_
    refine lv_iconst (v := 0) hx hb dX6_goes_43 (by decide) ?_
    refine vt_ialdK 0 (by decide) S hF hP (hlt _ (by decide)) rfl (by decide) dX6_goes_44 ?_
    refine lv_icmp_ge (tgt := 83) hx hb dX6_goes_45 (by decide) (fun c1 => ?_) (fun c1 => ?_)
    · rw [if_pos c1] at h
      refine lv_iload hx hb dX6_goes_83 (lv_at hl 3 rfl) ?_
      refine lv_iload hx hb dX6_goes_85 (lv_at hl 4 rfl) ?_
      refine lv_aload_n hx hb dX6_goes_87 rfl (lv_at hl 1 rfl) ?_
      refine vt_getR (r := 27) S hF hP (k := 0) (ci := 6) 26 (hlt _ (by decide)) rfl (by decide) rfl (by decide) rfl rfl (inC_X6 _) (List.mem_cons_of_mem _ fl_X6_7) dX6_goes_88 ?_
      refine lv_iconst (v := 0) hx hb dX6_goes_91 (by decide) ?_
      refine vt_ialdK 0 (by decide) S hF hP (hlt _ (by decide)) rfl (by decide) dX6_goes_92 ?_
      refine lv_isub hx hb dX6_goes_93 ?_
      refine lv_icmp_ne (tgt := 118) hx hb dX6_goes_94 (by decide) (fun c2 => ?_) (fun c2 => ?_)
      · rw [if_neg c2] at h
        refine lv_iload_n hx hb dX6_goes_118 rfl (lv_at hl 2 rfl) ?_
        exact hB119 _ _ h _ _ _ hP (lv_sub hl [1, 3] rfl)
      · rw [if_pos c2] at h
        refine lv_iload_n hx hb dX6_goes_97 rfl (lv_at hl 2 rfl) ?_
        refine lv_iload hx hb dX6_goes_98 (lv_at hl 0 rfl) ?_
        refine lv_iadd hx hb dX6_goes_100 ?_
        refine lv_aload_n hx hb dX6_goes_101 rfl (lv_at hl 1 rfl) ?_
        refine vt_getR (r := 27) S hF hP (k := 0) (ci := 6) 26 (hlt _ (by decide)) rfl (by decide) rfl (by decide) rfl rfl (inC_X6 _) (List.mem_cons_of_mem _ fl_X6_7) dX6_goes_102 ?_
        refine lv_iconst (v := 0) hx hb dX6_goes_105 (by decide) ?_
        refine vt_ialdK 0 (by decide) S hF hP (hlt _ (by decide)) rfl (by decide) dX6_goes_106 ?_
        refine lv_iadd hx hb dX6_goes_107 ?_
        refine lv_aload_n hx hb dX6_goes_108 rfl (lv_at hl 1 rfl) ?_
        refine vt_getR (r := 27) S hF hP (k := 0) (ci := 6) 26 (hlt _ (by decide)) rfl (by decide) rfl (by decide) rfl rfl (inC_X6 _) (List.mem_cons_of_mem _ fl_X6_7) dX6_goes_109 ?_
        refine lv_iconst (v := 0) hx hb dX6_goes_112 (by decide) ?_
        refine vt_ialdK 0 (by decide) S hF hP (hlt _ (by decide)) rfl (by decide) dX6_goes_113 ?_
        obtain ⟨c3, h⟩ := chk h
        refine lv_irem hx hb dX6_goes_114 c3 ?_
        refine lv_goto (tgt := 119) hx hb dX6_goes_115 (by decide) ?_
        exact hB119 _ _ h _ _ _ hP (lv_sub hl [1, 3] rfl)
    · rw [if_neg c1] at h
      refine lv_iload_n hx hb dX6_goes_48 rfl (lv_at hl 2 rfl) ?_
      refine lv_iload hx hb dX6_goes_49 (lv_at hl 4 rfl) ?_
      refine lv_icmp_ne (tgt := 76) hx hb dX6_goes_51 (by decide) (fun c4 => ?_) (fun c4 => ?_)
      · rw [if_neg c4] at h
        refine lv_iload hx hb dX6_goes_76 (lv_at hl 3 rfl) ?_
        exact hB78 _ _ h _ _ _ hP (lv_sub hl [1, 2] rfl)
      · rw [if_pos c4] at h
        refine lv_iload hx hb dX6_goes_54 (lv_at hl 3 rfl) ?_
        refine lv_iload hx hb dX6_goes_56 (lv_at hl 0 rfl) ?_
        refine lv_iadd hx hb dX6_goes_58 ?_
        refine lv_aload_n hx hb dX6_goes_59 rfl (lv_at hl 1 rfl) ?_
        refine vt_getR (r := 27) S hF hP (k := 0) (ci := 6) 26 (hlt _ (by decide)) rfl (by decide) rfl (by decide) rfl rfl (inC_X6 _) (List.mem_cons_of_mem _ fl_X6_7) dX6_goes_60 ?_
        refine lv_iconst (v := 1) hx hb dX6_goes_63 (by decide) ?_
        refine vt_ialdK 1 (by decide) S hF hP (hlt _ (by decide)) rfl (by decide) dX6_goes_64 ?_
        refine lv_iadd hx hb dX6_goes_65 ?_
        refine lv_aload_n hx hb dX6_goes_66 rfl (lv_at hl 1 rfl) ?_
        refine vt_getR (r := 27) S hF hP (k := 0) (ci := 6) 26 (hlt _ (by decide)) rfl (by decide) rfl (by decide) rfl rfl (inC_X6 _) (List.mem_cons_of_mem _ fl_X6_7) dX6_goes_67 ?_
        refine lv_iconst (v := 1) hx hb dX6_goes_70 (by decide) ?_
        refine vt_ialdK 1 (by decide) S hF hP (hlt _ (by decide)) rfl (by decide) dX6_goes_71 ?_
        obtain ⟨c5, h⟩ := chk h
        refine lv_irem hx hb dX6_goes_72 c5 ?_
        refine lv_goto (tgt := 78) hx hb dX6_goes_73 (by decide) ?_
        exact hB78 _ _ h _ _ _ hP (lv_sub hl [1, 2] rfl)
  unfold F_X6_goes at h
  refine lv_iload_n hx hb dX6_goes_0 rfl (lv_at hl 1 rfl) ?_
  refine lv_aload_n hx hb dX6_goes_1 rfl (lv_at hl 0 rfl) ?_
  refine vt_getR (r := 27) S hF hP (k := 0) (ci := 6) 26 (hlt _ (by decide)) rfl (by decide) rfl (by decide) rfl rfl (inC_X6 _) (List.mem_cons_of_mem _ fl_X6_7) dX6_goes_2 ?_
  refine lv_iconst (v := 1) hx hb dX6_goes_5 (by decide) ?_
  refine vt_ialdK 1 (by decide) S hF hP (hlt _ (by decide)) rfl (by decide) dX6_goes_6 ?_
  obtain ⟨c6, h⟩ := chk h
  refine lv_idiv hx hb dX6_goes_7 c6 ?_
  refine lv_istore_n (lv' := [(3, .int (x1 / (gI w 27 1))), (0, .ref (P.2.1 26)), (1, .int x1), (2, .int x2)]) hx hb dX6_goes_8 rfl hl (by decide) rfl (fun ls hl => ?_)
  refine lv_iload_n hx hb dX6_goes_9 rfl (lv_at hl 2 rfl) ?_
  refine lv_aload_n hx hb dX6_goes_10 rfl (lv_at hl 1 rfl) ?_
  refine vt_getR (r := 27) S hF hP (k := 0) (ci := 6) 26 (hlt _ (by decide)) rfl (by decide) rfl (by decide) rfl rfl (inC_X6 _) (List.mem_cons_of_mem _ fl_X6_7) dX6_goes_11 ?_
  refine lv_iconst (v := 1) hx hb dX6_goes_14 (by decide) ?_
  refine vt_ialdK 1 (by decide) S hF hP (hlt _ (by decide)) rfl (by decide) dX6_goes_15 ?_
  obtain ⟨c7, h⟩ := chk h
  refine lv_irem hx hb dX6_goes_16 c7 ?_
  refine lv_istore (lv' := [(4, .int (jrem x1 (gI w 27 1))), (3, .int (x1 / (gI w 27 1))), (0, .ref (P.2.1 26)), (1, .int x1), (2, .int x2)]) hx hb dX6_goes_17 hl (by decide) rfl (fun ls hl => ?_)
  refine lv_iload_n hx hb dX6_goes_19 rfl (lv_at hl 4 rfl) ?_
  refine lv_iconst (v := 2) hx hb dX6_goes_20 (by decide) ?_
  refine lv_idiv hx hb dX6_goes_21 (by decide) ?_
  refine lv_istore (lv' := [(5, .int (x2 / 2)), (4, .int (jrem x1 (gI w 27 1))), (3, .int (x1 / (gI w 27 1))), (0, .ref (P.2.1 26)), (1, .int x1), (2, .int x2)]) hx hb dX6_goes_22 hl (by decide) rfl (fun ls hl => ?_)
  refine lv_iload_n hx hb dX6_goes_24 rfl (lv_at hl 5 rfl) ?_
  refine lv_iconst (v := 2) hx hb dX6_goes_25 (by decide) ?_
  refine lv_irem hx hb dX6_goes_26 (by decide) ?_
  refine lv_if_ne (tgt := 34) hx hb dX6_goes_27 (by decide) (fun c8 => ?_) (fun c8 => ?_)
  · rw [if_neg c8] at h
    refine lv_iconst (v := (-1)) hx hb dX6_goes_34 (by decide) ?_
    exact hB35 _ _ _ _ h _ _ _ hP (lv_sub hl [3, 2, 1, 0] rfl)
  · rw [if_pos c8] at h
    refine lv_iconst (v := 1) hx hb dX6_goes_30 (by decide) ?_
    refine lv_goto (tgt := 35) hx hb dX6_goes_31 (by decide) ?_
    exact hB35 _ _ _ _ h _ _ _ hP (lv_sub hl [3, 2, 1, 0] rfl)
set_option maxRecDepth 100000 in
set_option maxHeartbeats 4000000 in
theorem c_X6_tries (l : Launch) (P : Pl) (hA : Adr P) (hn : 36 ≤ P.2.2.2.1) (w : Wo) {r : Wo} (h : F_X6_tries w = some r) : CtV l P yX6_tries cX6_tries 2 none 1 [.ref (P.2.1 26)] w r := by
  have hlt : ∀ h, h < 36 → h < P.2.2.2.1 := fun h q => Nat.lt_of_lt_of_le q hn
  refine vs_met hA (by decide +kernel) (Nat.le_of_ble_eq_true rfl) (fun p e s m args below meth c ls S hF hP hl hr hk => ?_)
  have hx := S.1
  have hb := S.2.1
  replace hl : lv_has ls 2 [(0, .ref (P.2.1 26))] := hl
  have hL2 : ∀ (n : Nat) (w : Wo) (x1 : Int32), jl2 (B_X6_tries_2) n w x1 = some r → ∀ (H : Heap) (locs : List Loc) (ls : Array Slot), St P s w H locs → lv_has ls 2 [(0, .ref (P.2.1 26)), (1, .int x1)] → W p l e (rmU 1 0 0) s m args below meth c H locs 0 0 (QV P r below args s) (F0 m 2 ls []) := by
    intro n
    induction n with
    | zero =>
      intro w x1 h
      cases h
    | succ n ih2 =>
      intro w x1 h H locs ls hP hl
      replace h : B_X6_tries_2 (jl2 (B_X6_tries_2) n) w x1 = some r := h
      revert h ih2
      generalize jl2 (B_X6_tries_2) n = k2
      intro ih2 h
      have hB25 : ∀ (w : Wo) (x1 : Int32), B_X6_tries_25 k2 w x1 = some r → ∀ (H : Heap) (locs : List Loc) (ls : Array Slot), St P s w H locs → lv_has ls 2 [(0, .ref (P.2.1 26)), (1, .int x1)] → W p l e (rmU 1 0 0) s m args below meth c H locs 0 0 (QV P r below args s) (F0 m 25 ls []) := by
        intro w x1 h H locs ls hP hl
        unfold B_X6_tries_25 at h
        refine lv_iinc (v := (x1 + 1)) (lv' := [(1, .int (x1 + 1)), (0, .ref (P.2.1 26))]) hx hb dX6_tries_25 hl (k := 1) rfl rfl (by decide) rfl (fun ls hl => ?_)
        refine lv_goto (tgt := 2) hx hb dX6_tries_28 (by decide) ?_
        exact ih2 _ _ h _ _ _ hP (lv_sub hl [1, 0] rfl)
      unfold B_X6_tries_2 at h
      refine lv_iload_n hx hb dX6_tries_2 rfl (lv_at hl 1 rfl) ?_
      refine lv_aload_n hx hb dX6_tries_3 rfl (lv_at hl 0 rfl) ?_
      obtain ⟨q1, hq1, h⟩ := ob h
      refine vu_i hP (vu_V S hF hP (h := 26) (hlt _ (by decide)) rfl (by decide) rfl (c_X6_places l P hA hn w hq1) ok_X6_places ml_X6_66 ⟨Nat.le_of_ble_eq_true rfl, Nat.le_of_ble_eq_true rfl⟩ rfl hl.1 rfl (Nat.le_of_ble_eq_true rfl) dX6_tries_4 ⟨Nat.le_of_ble_eq_true rfl, Nat.le_of_ble_eq_true rfl⟩) (fun H locs ho2 hP => ?_)
      refine lv_icmp_ge (tgt := 31) hx hb dX6_tries_7 (by decide) (fun c3 => ?_) (fun c3 => ?_)
      · rw [if_pos c3] at h
        obtain rfl := Option.some.inj h
        exact ve_v S hF hP hr hk dX6_tries_31
      · rw [if_neg c3] at h
        refine lv_aload_n hx hb dX6_tries_10 rfl (lv_at hl 0 rfl) ?_
        refine vt_getR (r := 33) S hF hP (k := 15) (ci := 6) 26 (hlt _ (by decide)) rfl (by decide) rfl (by decide) rfl rfl (inC_X6 _) (List.mem_cons_of_mem _ fl_X6_33) dX6_tries_11 ?_
        refine lv_iload_n hx hb dX6_tries_14 rfl (lv_at hl 1 rfl) ?_
        refine lv_aload_n hx hb dX6_tries_15 rfl (lv_at hl 0 rfl) ?_
        refine vt_getR (r := 27) S hF hP (k := 0) (ci := 6) 26 (hlt _ (by decide)) rfl (by decide) rfl (by decide) rfl rfl (inC_X6 _) (List.mem_cons_of_mem _ fl_X6_7) dX6_tries_16 ?_
        refine lv_bipush (v := 14) hx hb dX6_tries_19 (by decide) ?_
        refine lv_iload_n hx hb dX6_tries_21 rfl (lv_at hl 1 rfl) ?_
        refine lv_iadd hx hb dX6_tries_22 ?_
        obtain ⟨c4, h⟩ := chk h
        refine vt_iald S hF hP (hlt _ (by decide)) rfl c4 dX6_tries_23 ?_
        obtain ⟨c5, h⟩ := chk h
        refine vt_iast S hF hP (hlt _ (by decide)) rfl c5 dX6_tries_24 (fun H locs hP => ?_)
        exact hB25 _ _ h _ _ _ hP (lv_sub hl [0, 1] rfl)
  unfold F_X6_tries at h
  refine lv_iconst (v := 0) hx hb dX6_tries_0 (by decide) ?_
  refine lv_istore_n (lv' := [(1, .int 0), (0, .ref (P.2.1 26))]) hx hb dX6_tries_1 rfl hl (by decide) rfl (fun ls hl => ?_)
  exact hL2 fu _ _ h _ _ _ hP (lv_sub hl [1, 0] rfl)
set_option maxRecDepth 100000 in
set_option maxHeartbeats 4000000 in
theorem c_X6_turnsTried (l : Launch) (P : Pl) (hA : Adr P) (hn : 36 ≤ P.2.2.2.1) (w : Wo) (x1 : Int32) {r : Wo} (h : F_X6_turnsTried w x1 = some r) : CtV l P yX6_turnsTried cX6_turnsTried 3 none 1 [.ref (P.2.1 26), .int x1] w r := by
  have hlt : ∀ h, h < 36 → h < P.2.2.2.1 := fun h q => Nat.lt_of_lt_of_le q hn
  refine vs_met hA (by decide +kernel) (Nat.le_of_ble_eq_true rfl) (fun p e s m args below meth c ls S hF hP hl hr hk => ?_)
  have hx := S.1
  have hb := S.2.1
  replace hl : lv_has ls 3 [(0, .ref (P.2.1 26)), (1, .int x1)] := hl
  have hL35 : ∀ (n : Nat) (w : Wo) (x2 : Int32), jl2 (B_X6_turnsTried_35) n w x2 = some r → ∀ (H : Heap) (locs : List Loc) (ls : Array Slot), St P s w H locs → lv_has ls 3 [(0, .ref (P.2.1 26)), (2, .int x2)] → W p l e (rmU 1 0 0) s m args below meth c H locs 0 0 (QV P r below args s) (F0 m 35 ls []) := by
    intro n
    induction n with
    | zero =>
      intro w x2 h
      cases h
    | succ n ih35 =>
      intro w x2 h H locs ls hP hl
      replace h : B_X6_turnsTried_35 (jl2 (B_X6_turnsTried_35) n) w x2 = some r := h
      revert h ih35
      generalize jl2 (B_X6_turnsTried_35) n = k35
      intro ih35 h
      have hB55 : ∀ (w : Wo) (x2 : Int32), B_X6_turnsTried_55 k35 w x2 = some r → ∀ (H : Heap) (locs : List Loc) (ls : Array Slot), St P s w H locs → lv_has ls 3 [(0, .ref (P.2.1 26)), (2, .int x2)] → W p l e (rmU 1 0 0) s m args below meth c H locs 0 0 (QV P r below args s) (F0 m 55 ls []) := by
        intro w x2 h H locs ls hP hl
        unfold B_X6_turnsTried_55 at h
        refine lv_iinc (v := (x2 + 1)) (lv' := [(2, .int (x2 + 1)), (0, .ref (P.2.1 26))]) hx hb dX6_turnsTried_55 hl (k := 1) rfl rfl (by decide) rfl (fun ls hl => ?_)
        refine lv_goto (tgt := 35) hx hb dX6_turnsTried_58 (by decide) ?_
        exact ih35 _ _ h _ _ _ hP (lv_sub hl [1, 0] rfl)
      unfold B_X6_turnsTried_35 at h
      refine lv_iload_n hx hb dX6_turnsTried_35 rfl (lv_at hl 1 rfl) ?_
      refine lv_aload_n hx hb dX6_turnsTried_36 rfl (lv_at hl 0 rfl) ?_
      obtain ⟨q3, hq3, h⟩ := ob h
      refine vu_i hP (vu_V S hF hP (h := 26) (hlt _ (by decide)) rfl (by decide) rfl (c_X6_places l P hA hn w hq3) ok_X6_places ml_X6_66 ⟨Nat.le_of_ble_eq_true rfl, Nat.le_of_ble_eq_true rfl⟩ rfl hl.1 rfl (Nat.le_of_ble_eq_true rfl) dX6_turnsTried_37 ⟨Nat.le_of_ble_eq_true rfl, Nat.le_of_ble_eq_true rfl⟩) (fun H locs ho4 hP => ?_)
      refine lv_icmp_ge (tgt := 61) hx hb dX6_turnsTried_40 (by decide) (fun c7 => ?_) (fun c7 => ?_)
      · rw [if_pos c7] at h
        obtain rfl := Option.some.inj h
        exact ve_v S hF hP hr hk dX6_turnsTried_61
      · rw [if_neg c7] at h
        refine lv_aload_n hx hb dX6_turnsTried_43 rfl (lv_at hl 0 rfl) ?_
        refine vt_getR (r := 33) S hF hP (k := 15) (ci := 6) 26 (hlt _ (by decide)) rfl (by decide) rfl (by decide) rfl rfl (inC_X6 _) (List.mem_cons_of_mem _ fl_X6_33) dX6_turnsTried_44 ?_
        refine lv_iload_n hx hb dX6_turnsTried_47 rfl (lv_at hl 1 rfl) ?_
        refine lv_aload_n hx hb dX6_turnsTried_48 rfl (lv_at hl 0 rfl) ?_
        refine vt_getR (r := 34) S hF hP (k := 16) (ci := 6) 26 (hlt _ (by decide)) rfl (by decide) rfl (by decide) rfl rfl (inC_X6 _) (List.mem_cons_of_mem _ fl_X6_36) dX6_turnsTried_49 ?_
        refine lv_iload_n hx hb dX6_turnsTried_52 rfl (lv_at hl 1 rfl) ?_
        obtain ⟨c8, h⟩ := chk h
        refine vt_iald S hF hP (hlt _ (by decide)) rfl c8 dX6_turnsTried_53 ?_
        obtain ⟨c9, h⟩ := chk h
        refine vt_iast S hF hP (hlt _ (by decide)) rfl c9 dX6_turnsTried_54 (fun H locs hP => ?_)
        exact hB55 _ _ h _ _ _ hP (lv_sub hl [0, 1] rfl)
  have hB33 : ∀ (w : Wo), B_X6_turnsTried_33 w = some r → ∀ (H : Heap) (locs : List Loc) (ls : Array Slot), St P s w H locs → lv_has ls 3 [(0, .ref (P.2.1 26))] → W p l e (rmU 1 0 0) s m args below meth c H locs 0 0 (QV P r below args s) (F0 m 33 ls []) := by
    intro w h H locs ls hP hl
    unfold B_X6_turnsTried_33 at h
    refine lv_iconst (v := 0) hx hb dX6_turnsTried_33 (by decide) ?_
    refine lv_istore_n (lv' := [(2, .int 0), (0, .ref (P.2.1 26))]) hx hb dX6_turnsTried_34 rfl hl (by decide) rfl (fun ls hl => ?_)
    exact hL35 fu _ _ h _ _ _ hP (lv_sub hl [1, 0] rfl)
  have hL2 : ∀ (x1 : Int32) (n : Nat) (w : Wo) (x2 : Int32), jl2 (B_X6_turnsTried_2 x1) n w x2 = some r → ∀ (H : Heap) (locs : List Loc) (ls : Array Slot), St P s w H locs → lv_has ls 3 [(0, .ref (P.2.1 26)), (1, .int x1), (2, .int x2)] → W p l e (rmU 1 0 0) s m args below meth c H locs 0 0 (QV P r below args s) (F0 m 2 ls []) := by
    intro x1
    intro n
    induction n with
    | zero =>
      intro w x2 h
      cases h
    | succ n ih2 =>
      intro w x2 h H locs ls hP hl
      replace h : B_X6_turnsTried_2 x1 (jl2 (B_X6_turnsTried_2 x1) n) w x2 = some r := h
      revert h ih2
      generalize jl2 (B_X6_turnsTried_2 x1) n = k2
      intro ih2 h
      have hB27 : ∀ (w : Wo) (x2 : Int32), B_X6_turnsTried_27 k2 w x1 x2 = some r → ∀ (H : Heap) (locs : List Loc) (ls : Array Slot), St P s w H locs → lv_has ls 3 [(0, .ref (P.2.1 26)), (1, .int x1), (2, .int x2)] → W p l e (rmU 1 0 0) s m args below meth c H locs 0 0 (QV P r below args s) (F0 m 27 ls []) := by
        intro w x2 h H locs ls hP hl
        unfold B_X6_turnsTried_27 at h
        refine lv_iinc (v := (x2 + 1)) (lv' := [(2, .int (x2 + 1)), (0, .ref (P.2.1 26)), (1, .int x1)]) hx hb dX6_turnsTried_27 hl (k := 2) rfl rfl (by decide) rfl (fun ls hl => ?_)
        refine lv_goto (tgt := 2) hx hb dX6_turnsTried_30 (by decide) ?_
        exact ih2 _ _ h _ _ _ hP (lv_sub hl [1, 2, 0] rfl)
      unfold B_X6_turnsTried_2 at h
      refine lv_iload_n hx hb dX6_turnsTried_2 rfl (lv_at hl 2 rfl) ?_
      refine lv_aload_n hx hb dX6_turnsTried_3 rfl (lv_at hl 0 rfl) ?_
      obtain ⟨q1, hq1, h⟩ := ob h
      refine vu_i hP (vu_V S hF hP (h := 26) (hlt _ (by decide)) rfl (by decide) rfl (c_X6_places l P hA hn w hq1) ok_X6_places ml_X6_66 ⟨Nat.le_of_ble_eq_true rfl, Nat.le_of_ble_eq_true rfl⟩ rfl hl.1 rfl (Nat.le_of_ble_eq_true rfl) dX6_turnsTried_4 ⟨Nat.le_of_ble_eq_true rfl, Nat.le_of_ble_eq_true rfl⟩) (fun H locs ho2 hP => ?_)
      refine lv_icmp_ge (tgt := 33) hx hb dX6_turnsTried_7 (by decide) (fun c10 => ?_) (fun c10 => ?_)
      · rw [if_pos c10] at h
        exact hB33 _ h _ _ _ hP (lv_sub hl [0] rfl)
      · rw [if_neg c10] at h
        refine lv_aload_n hx hb dX6_turnsTried_10 rfl (lv_at hl 0 rfl) ?_
        refine vt_getR (r := 34) S hF hP (k := 16) (ci := 6) 26 (hlt _ (by decide)) rfl (by decide) rfl (by decide) rfl rfl (inC_X6 _) (List.mem_cons_of_mem _ fl_X6_36) dX6_turnsTried_11 ?_
        refine lv_aload_n hx hb dX6_turnsTried_14 rfl (lv_at hl 0 rfl) ?_
        refine lv_iload_n hx hb dX6_turnsTried_15 rfl (lv_at hl 2 rfl) ?_
        refine lv_iload_n hx hb dX6_turnsTried_16 rfl (lv_at hl 1 rfl) ?_
        obtain ⟨q5, hq5, h⟩ := ob h
        refine vu_i hP (vu_V S hF hP (h := 26) (hlt _ (by decide)) rfl (by decide) rfl (c_X6_goes l P hA hn w x2 x1 hq5) ok_X6_goes ml_X6_118 ⟨Nat.le_of_ble_eq_true rfl, Nat.le_of_ble_eq_true rfl⟩ rfl hl.1 rfl (Nat.le_of_ble_eq_true rfl) dX6_turnsTried_17 ⟨Nat.le_of_ble_eq_true rfl, Nat.le_of_ble_eq_true rfl⟩) (fun H locs ho6 hP => ?_)
        refine lv_aload_n hx hb dX6_turnsTried_20 rfl (lv_at hl 0 rfl) ?_
        refine vt_getR (r := 33) S hF hP (k := 15) (ci := 6) 26 (hlt _ (by decide)) rfl (by decide) rfl (by decide) rfl rfl (inC_X6 _) (List.mem_cons_of_mem _ fl_X6_33) dX6_turnsTried_21 ?_
        refine lv_iload_n hx hb dX6_turnsTried_24 rfl (lv_at hl 2 rfl) ?_
        obtain ⟨c11, h⟩ := chk h
        refine vt_iald S hF hP (hlt _ (by decide)) rfl c11 dX6_turnsTried_25 ?_
        obtain ⟨c12, h⟩ := chk h
        refine vt_iast S hF hP (hlt _ (by decide)) rfl c12 dX6_turnsTried_26 (fun H locs hP => ?_)
        exact hB27 _ _ h _ _ _ hP (lv_sub hl [0, 1, 2] rfl)
  unfold F_X6_turnsTried at h
  refine lv_iconst (v := 0) hx hb dX6_turnsTried_0 (by decide) ?_
  refine lv_istore_n (lv' := [(2, .int 0), (0, .ref (P.2.1 26)), (1, .int x1)]) hx hb dX6_turnsTried_1 rfl hl (by decide) rfl (fun ls hl => ?_)
  exact hL2 _ fu _ _ h _ _ _ hP (lv_sub hl [1, 2, 0] rfl)
set_option maxRecDepth 100000 in
set_option maxHeartbeats 4000000 in
theorem c_X6_takesTried (l : Launch) (P : Pl) (hA : Adr P) (hn : 36 ≤ P.2.2.2.1) (w : Wo) {r : Wo} (h : F_X6_takesTried w = some r) : CtV l P yX6_takesTried cX6_takesTried 2 none 1 [.ref (P.2.1 26)] w r := by
  have hlt : ∀ h, h < 36 → h < P.2.2.2.1 := fun h q => Nat.lt_of_lt_of_le q hn
  refine vs_met hA (by decide +kernel) (Nat.le_of_ble_eq_true rfl) (fun p e s m args below meth c ls S hF hP hl hr hk => ?_)
  have hx := S.1
  have hb := S.2.1
  replace hl : lv_has ls 2 [(0, .ref (P.2.1 26))] := hl
  have hL2 : ∀ (n : Nat) (w : Wo) (x1 : Int32), jl2 (B_X6_takesTried_2) n w x1 = some r → ∀ (H : Heap) (locs : List Loc) (ls : Array Slot), St P s w H locs → lv_has ls 2 [(0, .ref (P.2.1 26)), (1, .int x1)] → W p l e (rmU 1 0 0) s m args below meth c H locs 0 0 (QV P r below args s) (F0 m 2 ls []) := by
    intro n
    induction n with
    | zero =>
      intro w x1 h
      cases h
    | succ n ih2 =>
      intro w x1 h H locs ls hP hl
      replace h : B_X6_takesTried_2 (jl2 (B_X6_takesTried_2) n) w x1 = some r := h
      revert h ih2
      generalize jl2 (B_X6_takesTried_2) n = k2
      intro ih2 h
      have hB25 : ∀ (w : Wo) (x1 : Int32), B_X6_takesTried_25 k2 w x1 = some r → ∀ (H : Heap) (locs : List Loc) (ls : Array Slot), St P s w H locs → lv_has ls 2 [(0, .ref (P.2.1 26)), (1, .int x1)] → W p l e (rmU 1 0 0) s m args below meth c H locs 0 0 (QV P r below args s) (F0 m 25 ls []) := by
        intro w x1 h H locs ls hP hl
        unfold B_X6_takesTried_25 at h
        refine lv_iinc (v := (x1 + 1)) (lv' := [(1, .int (x1 + 1)), (0, .ref (P.2.1 26))]) hx hb dX6_takesTried_25 hl (k := 1) rfl rfl (by decide) rfl (fun ls hl => ?_)
        refine lv_goto (tgt := 2) hx hb dX6_takesTried_28 (by decide) ?_
        exact ih2 _ _ h _ _ _ hP (lv_sub hl [1, 0] rfl)
      unfold B_X6_takesTried_2 at h
      refine lv_iload_n hx hb dX6_takesTried_2 rfl (lv_at hl 1 rfl) ?_
      refine lv_aload_n hx hb dX6_takesTried_3 rfl (lv_at hl 0 rfl) ?_
      obtain ⟨q1, hq1, h⟩ := ob h
      refine vu_i hP (vu_V S hF hP (h := 26) (hlt _ (by decide)) rfl (by decide) rfl (c_X6_places l P hA hn w hq1) ok_X6_places ml_X6_66 ⟨Nat.le_of_ble_eq_true rfl, Nat.le_of_ble_eq_true rfl⟩ rfl hl.1 rfl (Nat.le_of_ble_eq_true rfl) dX6_takesTried_4 ⟨Nat.le_of_ble_eq_true rfl, Nat.le_of_ble_eq_true rfl⟩) (fun H locs ho2 hP => ?_)
      refine lv_icmp_ge (tgt := 31) hx hb dX6_takesTried_7 (by decide) (fun c3 => ?_) (fun c3 => ?_)
      · rw [if_pos c3] at h
        obtain rfl := Option.some.inj h
        exact ve_v S hF hP hr hk dX6_takesTried_31
      · rw [if_neg c3] at h
        refine lv_aload_n hx hb dX6_takesTried_10 rfl (lv_at hl 0 rfl) ?_
        refine vt_getR (r := 27) S hF hP (k := 0) (ci := 6) 26 (hlt _ (by decide)) rfl (by decide) rfl (by decide) rfl rfl (inC_X6 _) (List.mem_cons_of_mem _ fl_X6_7) dX6_takesTried_11 ?_
        refine lv_bipush (v := 14) hx hb dX6_takesTried_14 (by decide) ?_
        refine lv_iload_n hx hb dX6_takesTried_16 rfl (lv_at hl 1 rfl) ?_
        refine lv_iadd hx hb dX6_takesTried_17 ?_
        refine lv_aload_n hx hb dX6_takesTried_18 rfl (lv_at hl 0 rfl) ?_
        refine vt_getR (r := 33) S hF hP (k := 15) (ci := 6) 26 (hlt _ (by decide)) rfl (by decide) rfl (by decide) rfl rfl (inC_X6 _) (List.mem_cons_of_mem _ fl_X6_33) dX6_takesTried_19 ?_
        refine lv_iload_n hx hb dX6_takesTried_22 rfl (lv_at hl 1 rfl) ?_
        obtain ⟨c4, h⟩ := chk h
        refine vt_iald S hF hP (hlt _ (by decide)) rfl c4 dX6_takesTried_23 ?_
        obtain ⟨c5, h⟩ := chk h
        refine vt_iast S hF hP (hlt _ (by decide)) rfl c5 dX6_takesTried_24 (fun H locs hP => ?_)
        exact hB25 _ _ h _ _ _ hP (lv_sub hl [0, 1] rfl)
  unfold F_X6_takesTried at h
  refine lv_iconst (v := 0) hx hb dX6_takesTried_0 (by decide) ?_
  refine lv_istore_n (lv' := [(1, .int 0), (0, .ref (P.2.1 26))]) hx hb dX6_takesTried_1 rfl hl (by decide) rfl (fun ls hl => ?_)
  exact hL2 fu _ _ h _ _ _ hP (lv_sub hl [1, 0] rfl)
set_option maxRecDepth 100000 in
set_option maxHeartbeats 4000000 in
theorem c_X6_homeTried (l : Launch) (P : Pl) (hA : Adr P) (hn : 36 ≤ P.2.2.2.1) (w : Wo) {r : Int32} (h : F_X6_homeTried w = some r) : CtI l P yX6_homeTried cX6_homeTried 3 (some .int) 1 [.ref (P.2.1 26)] w r w := by
  have hlt : ∀ h, h < 36 → h < P.2.2.2.1 := fun h q => Nat.lt_of_lt_of_le q hn
  refine vs_met hA (by decide +kernel) (Nat.le_of_ble_eq_true rfl) (fun p e s m args below meth c ls S hF hP hl hr hk => ?_)
  have hx := S.1
  have hb := S.2.1
  replace hl : lv_has ls 3 [(0, .ref (P.2.1 26))] := hl
  have hL4 : ∀ (n : Nat) (x1 : Int32) (x2 : Int32), jl2 (B_X6_homeTried_4 w) n x1 x2 = some r → ∀ (H : Heap) (locs : List Loc) (ls : Array Slot), St P s w H locs → lv_has ls 3 [(0, .ref (P.2.1 26)), (1, .int x1), (2, .int x2)] → W p l e (rmU 1 0 0) s m args below meth c H locs 0 0 (QI P (some .int) r w below args s) (F0 m 4 ls []) := by
    intro n
    induction n with
    | zero =>
      intro x1 x2 h
      cases h
    | succ n ih4 =>
      intro x1 x2 h H locs ls hP hl
      replace h : B_X6_homeTried_4 w (jl2 (B_X6_homeTried_4 w) n) x1 x2 = some r := h
      revert h ih4
      generalize jl2 (B_X6_homeTried_4 w) n = k4
      intro ih4 h
      have hB49 : ∀ (x2 : Int32) (t0 : Int32) (t1 : Int32), B_X6_homeTried_49 k4 w x2 t0 t1 = some r → ∀ (H : Heap) (locs : List Loc) (ls : Array Slot), St P s w H locs → lv_has ls 3 [(0, .ref (P.2.1 26)), (2, .int x2)] → W p l e (rmU 1 0 0) s m args below meth c H locs 0 0 (QI P (some .int) r w below args s) (F0 m 49 ls [.int t0, .int t1]) := by
        intro x2 t0 t1 h H locs ls hP hl
        unfold B_X6_homeTried_49 at h
        refine lv_iadd hx hb dX6_homeTried_49 ?_
        refine lv_istore_n (lv' := [(1, .int (t1 + t0)), (0, .ref (P.2.1 26)), (2, .int x2)]) hx hb dX6_homeTried_50 rfl hl (by decide) rfl (fun ls hl => ?_)
        refine lv_iinc (v := (x2 + 1)) (lv' := [(2, .int (x2 + 1)), (1, .int (t1 + t0)), (0, .ref (P.2.1 26))]) hx hb dX6_homeTried_51 hl (k := 2) rfl rfl (by decide) rfl (fun ls hl => ?_)
        refine lv_goto (tgt := 4) hx hb dX6_homeTried_54 (by decide) ?_
        exact ih4 _ _ h _ _ _ hP (lv_sub hl [2, 1, 0] rfl)
      have hB44 : ∀ (x2 : Int32) (t0 : Int32), B_X6_homeTried_44 k4 w x2 t0 = some r → ∀ (H : Heap) (locs : List Loc) (ls : Array Slot), St P s w H locs → lv_has ls 3 [(0, .ref (P.2.1 26)), (2, .int x2)] → W p l e (rmU 1 0 0) s m args below meth c H locs 0 0 (QI P (some .int) r w below args s) (F0 m 44 ls [.int t0]) := by
        intro x2 t0 h H locs ls hP hl
        unfold B_X6_homeTried_44 at h
        refine lv_iconst (v := 1) hx hb dX6_homeTried_44 (by decide) ?_
        refine lv_goto (tgt := 49) hx hb dX6_homeTried_45 (by decide) ?_
        exact hB49 _ _ _ h _ _ _ hP (lv_sub hl [0, 1] rfl)
      unfold B_X6_homeTried_4 at h
      refine lv_iload_n hx hb dX6_homeTried_4 rfl (lv_at hl 2 rfl) ?_
      refine lv_aload_n hx hb dX6_homeTried_5 rfl (lv_at hl 0 rfl) ?_
      obtain ⟨q1, hq1, h⟩ := ob h
      refine vu_i hP (vu_V S hF hP (h := 26) (hlt _ (by decide)) rfl (by decide) rfl (c_X6_places l P hA hn w hq1) ok_X6_places ml_X6_66 ⟨Nat.le_of_ble_eq_true rfl, Nat.le_of_ble_eq_true rfl⟩ rfl hl.1 rfl (Nat.le_of_ble_eq_true rfl) dX6_homeTried_6 ⟨Nat.le_of_ble_eq_true rfl, Nat.le_of_ble_eq_true rfl⟩) (fun H locs ho2 hP => ?_)
      refine lv_icmp_ge (tgt := 57) hx hb dX6_homeTried_9 (by decide) (fun c3 => ?_) (fun c3 => ?_)
      · rw [if_pos c3] at h
        refine lv_iload_n hx hb dX6_homeTried_57 rfl (lv_at hl 1 rfl) ?_
        obtain rfl := Option.some.inj h
        exact ve_i (v := x1) S hF hP hr hk rfl dX6_homeTried_58
      · rw [if_neg c3] at h
        refine lv_iload_n hx hb dX6_homeTried_12 rfl (lv_at hl 1 rfl) ?_
        refine lv_aload_n hx hb dX6_homeTried_13 rfl (lv_at hl 0 rfl) ?_
        refine vt_getR (r := 27) S hF hP (k := 0) (ci := 6) 26 (hlt _ (by decide)) rfl (by decide) rfl (by decide) rfl rfl (inC_X6 _) (List.mem_cons_of_mem _ fl_X6_7) dX6_homeTried_14 ?_
        refine lv_bipush (v := 23) hx hb dX6_homeTried_17 (by decide) ?_
        refine lv_iload_n hx hb dX6_homeTried_19 rfl (lv_at hl 2 rfl) ?_
        refine lv_iadd hx hb dX6_homeTried_20 ?_
        obtain ⟨c4, h⟩ := chk h
        refine vt_iald S hF hP (hlt _ (by decide)) rfl c4 dX6_homeTried_21 ?_
        refine lv_iconst (v := (-1)) hx hb dX6_homeTried_22 (by decide) ?_
        refine lv_icmp_eq (tgt := 44) hx hb dX6_homeTried_23 (by decide) (fun c5 => ?_) (fun c5 => ?_)
        · rw [if_pos c5] at h
          exact hB44 _ _ h _ _ _ hP (lv_sub hl [0, 2] rfl)
        · rw [if_neg c5] at h
          refine lv_aload_n hx hb dX6_homeTried_26 rfl (lv_at hl 0 rfl) ?_
          refine vt_getR (r := 27) S hF hP (k := 0) (ci := 6) 26 (hlt _ (by decide)) rfl (by decide) rfl (by decide) rfl rfl (inC_X6 _) (List.mem_cons_of_mem _ fl_X6_7) dX6_homeTried_27 ?_
          refine lv_bipush (v := 23) hx hb dX6_homeTried_30 (by decide) ?_
          refine lv_iload_n hx hb dX6_homeTried_32 rfl (lv_at hl 2 rfl) ?_
          refine lv_iadd hx hb dX6_homeTried_33 ?_
          obtain ⟨c6, h⟩ := chk h
          refine vt_iald S hF hP (hlt _ (by decide)) rfl c6 dX6_homeTried_34 ?_
          refine lv_aload_n hx hb dX6_homeTried_35 rfl (lv_at hl 0 rfl) ?_
          refine vt_getR (r := 33) S hF hP (k := 15) (ci := 6) 26 (hlt _ (by decide)) rfl (by decide) rfl (by decide) rfl rfl (inC_X6 _) (List.mem_cons_of_mem _ fl_X6_33) dX6_homeTried_36 ?_
          refine lv_iload_n hx hb dX6_homeTried_39 rfl (lv_at hl 2 rfl) ?_
          obtain ⟨c7, h⟩ := chk h
          refine vt_iald S hF hP (hlt _ (by decide)) rfl c7 dX6_homeTried_40 ?_
          refine lv_icmp_ne (tgt := 48) hx hb dX6_homeTried_41 (by decide) (fun c8 => ?_) (fun c8 => ?_)
          · rw [if_neg c8] at h
            refine lv_iconst (v := 0) hx hb dX6_homeTried_48 (by decide) ?_
            exact hB49 _ _ _ h _ _ _ hP (lv_sub hl [0, 2] rfl)
          · rw [if_pos c8] at h
            exact hB44 _ _ h _ _ _ hP (lv_sub hl [0, 2] rfl)
  unfold F_X6_homeTried at h
  refine lv_iconst (v := 0) hx hb dX6_homeTried_0 (by decide) ?_
  refine lv_istore_n (lv' := [(1, .int 0), (0, .ref (P.2.1 26))]) hx hb dX6_homeTried_1 rfl hl (by decide) rfl (fun ls hl => ?_)
  refine lv_iconst (v := 0) hx hb dX6_homeTried_2 (by decide) ?_
  refine lv_istore_n (lv' := [(2, .int 0), (1, .int 0), (0, .ref (P.2.1 26))]) hx hb dX6_homeTried_3 rfl hl (by decide) rfl (fun ls hl => ?_)
  exact hL4 fu _ _ h _ _ _ hP (lv_sub hl [2, 1, 0] rfl)
set_option maxRecDepth 100000 in
set_option maxHeartbeats 4000000 in
theorem c_X6_homes (l : Launch) (P : Pl) (hA : Adr P) (hn : 36 ≤ P.2.2.2.1) (w : Wo) {r : Int32 × Wo} (h : F_X6_homes w = some r) : CtI l P yX6_homes cX6_homes 1 (some .int) 2 [.ref (P.2.1 26)] w r.1 r.2 := by
  have hlt : ∀ h, h < 36 → h < P.2.2.2.1 := fun h q => Nat.lt_of_lt_of_le q hn
  refine vs_met hA (by decide +kernel) (Nat.le_of_ble_eq_true rfl) (fun p e s m args below meth c ls S hF hP hl hr hk => ?_)
  have hx := S.1
  have hb := S.2.1
  replace hl : lv_has ls 1 [(0, .ref (P.2.1 26))] := hl
  unfold F_X6_homes at h
  refine lv_aload_n hx hb dX6_homes_0 rfl (lv_at hl 0 rfl) ?_
  obtain ⟨q1, hq1, h⟩ := ob h
  refine vu_v hP (vu_V S hF hP (h := 26) (hlt _ (by decide)) rfl (by decide) rfl (c_X6_tries l P hA hn w hq1) ok_X6_tries ml_X6_121 ⟨Nat.le_of_ble_eq_true rfl, Nat.le_of_ble_eq_true rfl⟩ rfl hl.1 rfl (Nat.le_of_ble_eq_true rfl) dX6_homes_1 ⟨Nat.le_of_ble_eq_true rfl, Nat.le_of_ble_eq_true rfl⟩) (fun H locs hP => ?_)
  refine lv_aload_n hx hb dX6_homes_4 rfl (lv_at hl 0 rfl) ?_
  obtain ⟨q2, hq2, h⟩ := ob h
  refine vu_i hP (vu_V S hF hP (h := 26) (hlt _ (by decide)) rfl (by decide) rfl (c_X6_homeTried l P hA hn q1 hq2) ok_X6_homeTried ml_X6_124 ⟨Nat.le_of_ble_eq_true rfl, Nat.le_of_ble_eq_true rfl⟩ rfl hl.1 rfl (Nat.le_of_ble_eq_true rfl) dX6_homes_5 ⟨Nat.le_of_ble_eq_true rfl, Nat.le_of_ble_eq_true rfl⟩) (fun H locs ho3 hP => ?_)
  obtain rfl := Option.some.inj h
  exact ve_i (v := q2) S hF hP hr hk rfl dX6_homes_8
set_option maxRecDepth 100000 in
set_option maxHeartbeats 4000000 in
theorem c_X6_isOpen (l : Launch) (P : Pl) (hA : Adr P) (hn : 36 ≤ P.2.2.2.1) (w : Wo) (x1 : Int32) {r : Int32} (h : F_X6_isOpen w x1 = some r) : CtI l P yX6_isOpen cX6_isOpen 2 (some .boolean) 0 [.ref (P.2.1 26), .int x1] w r w := by
  have hlt : ∀ h, h < 36 → h < P.2.2.2.1 := fun h q => Nat.lt_of_lt_of_le q hn
  refine vs_met hA (by decide +kernel) (Nat.le_of_ble_eq_true rfl) (fun p e s m args below meth c ls S hF hP hl hr hk => ?_)
  have hx := S.1
  have hb := S.2.1
  replace hl : lv_has ls 2 [(0, .ref (P.2.1 26)), (1, .int x1)] := hl
  unfold F_X6_isOpen at h
  refine lv_aload_n hx hb dX6_isOpen_0 rfl (lv_at hl 0 rfl) ?_
  refine vt_getR (r := 27) S hF hP (k := 0) (ci := 6) 26 (hlt _ (by decide)) rfl (by decide) rfl (by decide) rfl rfl (inC_X6 _) (List.mem_cons_of_mem _ fl_X6_7) dX6_isOpen_1 ?_
  refine lv_bipush (v := 8) hx hb dX6_isOpen_4 (by decide) ?_
  refine lv_iload_n hx hb dX6_isOpen_6 rfl (lv_at hl 1 rfl) ?_
  refine lv_iconst (v := 2) hx hb dX6_isOpen_7 (by decide) ?_
  refine lv_idiv hx hb dX6_isOpen_8 (by decide) ?_
  refine lv_iadd hx hb dX6_isOpen_9 ?_
  obtain ⟨c1, h⟩ := chk h
  refine vt_iald S hF hP (hlt _ (by decide)) rfl c1 dX6_isOpen_10 ?_
  refine lv_if_ne (tgt := 18) hx hb dX6_isOpen_11 (by decide) (fun c2 => ?_) (fun c2 => ?_)
  · rw [if_neg c2] at h
    refine lv_iconst (v := 0) hx hb dX6_isOpen_18 (by decide) ?_
    obtain rfl := Option.some.inj h
    exact ve_i (v := 0) S hF hP hr hk rfl dX6_isOpen_19
  · rw [if_pos c2] at h
    refine lv_iconst (v := 1) hx hb dX6_isOpen_14 (by decide) ?_
    refine lv_goto (tgt := 19) hx hb dX6_isOpen_15 (by decide) ?_
    obtain rfl := Option.some.inj h
    exact ve_i (v := 1) S hF hP hr hk rfl dX6_isOpen_19
set_option maxRecDepth 100000 in
set_option maxHeartbeats 4000000 in
theorem c_X6_makes (l : Launch) (P : Pl) (hA : Adr P) (hn : 36 ≤ P.2.2.2.1) (w : Wo) (x1 : Int32) {r : Int32 × Wo} (h : F_X6_makes w x1 = some r) : CtI l P yX6_makes cX6_makes 2 (some .int) 2 [.ref (P.2.1 26), .int x1] w r.1 r.2 := by
  have hlt : ∀ h, h < 36 → h < P.2.2.2.1 := fun h q => Nat.lt_of_lt_of_le q hn
  refine vs_met hA (by decide +kernel) (Nat.le_of_ble_eq_true rfl) (fun p e s m args below meth c ls S hF hP hl hr hk => ?_)
  have hx := S.1
  have hb := S.2.1
  replace hl : lv_has ls 2 [(0, .ref (P.2.1 26)), (1, .int x1)] := hl
  have hB23 : ∀ (w : Wo), B_X6_makes_23 w = some r → ∀ (H : Heap) (locs : List Loc) (ls : Array Slot), St P s w H locs → lv_has ls 2 [(0, .ref (P.2.1 26))] → W p l e (rmU 2 0 0) s m args below meth c H locs 0 0 (QI P (some .int) r.1 r.2 below args s) (F0 m 23 ls []) := by
    intro w h H locs ls hP hl
    unfold B_X6_makes_23 at h
    refine lv_aload_n hx hb dX6_makes_23 rfl (lv_at hl 0 rfl) ?_
    obtain ⟨q4, hq4, h⟩ := ob h
    refine vu_i hP (vu_V S hF hP (h := 26) (hlt _ (by decide)) rfl (by decide) rfl (c_X6_homeTried l P hA hn w hq4) ok_X6_homeTried ml_X6_124 ⟨Nat.le_of_ble_eq_true rfl, Nat.le_of_ble_eq_true rfl⟩ rfl hl.1 rfl (Nat.le_of_ble_eq_true rfl) dX6_makes_24 ⟨Nat.le_of_ble_eq_true rfl, Nat.le_of_ble_eq_true rfl⟩) (fun H locs ho5 hP => ?_)
    obtain rfl := Option.some.inj h
    exact ve_i (v := q4) S hF hP hr hk rfl dX6_makes_27
  unfold F_X6_makes at h
  refine lv_aload_n hx hb dX6_makes_0 rfl (lv_at hl 0 rfl) ?_
  obtain ⟨q1, hq1, h⟩ := ob h
  refine vu_v hP (vu_V S hF hP (h := 26) (hlt _ (by decide)) rfl (by decide) rfl (c_X6_tries l P hA hn w hq1) ok_X6_tries ml_X6_121 ⟨Nat.le_of_ble_eq_true rfl, Nat.le_of_ble_eq_true rfl⟩ rfl hl.1 rfl (Nat.le_of_ble_eq_true rfl) dX6_makes_1 ⟨Nat.le_of_ble_eq_true rfl, Nat.le_of_ble_eq_true rfl⟩) (fun H locs hP => ?_)
  refine lv_aload_n hx hb dX6_makes_4 rfl (lv_at hl 0 rfl) ?_
  refine lv_iload_n hx hb dX6_makes_5 rfl (lv_at hl 1 rfl) ?_
  obtain ⟨q2, hq2, h⟩ := ob h
  refine vu_v hP (vu_V S hF hP (h := 26) (hlt _ (by decide)) rfl (by decide) rfl (c_X6_turnsTried l P hA hn q1 x1 hq2) ok_X6_turnsTried ml_X6_127 ⟨Nat.le_of_ble_eq_true rfl, Nat.le_of_ble_eq_true rfl⟩ rfl hl.1 rfl (Nat.le_of_ble_eq_true rfl) dX6_makes_6 ⟨Nat.le_of_ble_eq_true rfl, Nat.le_of_ble_eq_true rfl⟩) (fun H locs hP => ?_)
  refine lv_aload_n hx hb dX6_makes_9 rfl (lv_at hl 0 rfl) ?_
  obtain ⟨q3, hq3, h⟩ := ob h
  refine vu_v hP (vu_V S hF hP (h := 26) (hlt _ (by decide)) rfl (by decide) rfl (c_X6_takesTried l P hA hn q2 hq3) ok_X6_takesTried ml_X6_131 ⟨Nat.le_of_ble_eq_true rfl, Nat.le_of_ble_eq_true rfl⟩ rfl hl.1 rfl (Nat.le_of_ble_eq_true rfl) dX6_makes_10 ⟨Nat.le_of_ble_eq_true rfl, Nat.le_of_ble_eq_true rfl⟩) (fun H locs hP => ?_)
  refine lv_aload_n hx hb dX6_makes_13 rfl (lv_at hl 0 rfl) ?_
  refine vt_getR (r := 27) S hF hP (k := 0) (ci := 6) 26 (hlt _ (by decide)) rfl (by decide) rfl (by decide) rfl rfl (inC_X6 _) (List.mem_cons_of_mem _ fl_X6_7) dX6_makes_14 ?_
  refine lv_iconst (v := 2) hx hb dX6_makes_17 (by decide) ?_
  refine lv_dup2_11 hx hb dX6_makes_18 rfl rfl ?_
  refine vt_ialdK 2 (by decide) S hF hP (hlt _ (by decide)) rfl (by decide) dX6_makes_19 ?_
  refine lv_iconst (v := 1) hx hb dX6_makes_20 (by decide) ?_
  refine lv_iadd hx hb dX6_makes_21 ?_
  refine vt_iastK 2 (by decide) S hF hP (hlt _ (by decide)) rfl (by decide) dX6_makes_22 (fun H locs hP => ?_)
  exact hB23 _ h _ _ _ hP (lv_sub hl [0] rfl)
set_option maxRecDepth 100000 in
set_option maxHeartbeats 4000000 in
theorem c_X6_makesByHand (l : Launch) (P : Pl) (hA : Adr P) (hn : 36 ≤ P.2.2.2.1) (w : Wo) (x1 : Int32) {r : Int32 × Wo} (h : F_X6_makesByHand w x1 = some r) : CtI l P yX6_makesByHand cX6_makesByHand 4 (some .int) 3 [.ref (P.2.1 26), .int x1] w r.1 r.2 := by
  have hlt : ∀ h, h < 36 → h < P.2.2.2.1 := fun h q => Nat.lt_of_lt_of_le q hn
  refine vs_met hA (by decide +kernel) (Nat.le_of_ble_eq_true rfl) (fun p e s m args below meth c ls S hF hP hl hr hk => ?_)
  have hx := S.1
  have hb := S.2.1
  replace hl : lv_has ls 4 [(0, .ref (P.2.1 26)), (1, .int x1)] := hl
  have hB39 : ∀ (w : Wo) (x3 : Int32), B_X6_makesByHand_39 w x3 = some r → ∀ (H : Heap) (locs : List Loc) (ls : Array Slot), St P s w H locs → lv_has ls 4 [(3, .int x3)] → W p l e (rmU 3 0 0) s m args below meth c H locs 0 0 (QI P (some .int) r.1 r.2 below args s) (F0 m 39 ls []) := by
    intro w x3 h H locs ls hP hl
    unfold B_X6_makesByHand_39 at h
    refine lv_iload_n hx hb dX6_makesByHand_39 rfl (lv_at hl 0 rfl) ?_
    obtain rfl := Option.some.inj h
    exact ve_i (v := x3) S hF hP hr hk rfl dX6_makesByHand_40
  have hB37 : ∀ (w : Wo) (x3 : Int32) (t0 : Int32) (t1 : Int32) (t2 : Int32), B_X6_makesByHand_37 w x3 t0 t1 t2 = some r → ∀ (H : Heap) (locs : List Loc) (ls : Array Slot), St P s w H locs → lv_has ls 4 [(3, .int x3)] → W p l e (rmU 3 0 0) s m args below meth c H locs 0 0 (QI P (some .int) r.1 r.2 below args s) (F0 m 37 ls [.int t0, .int t1, .int t2, .ref (P.2.1 27)]) := by
    intro w x3 t0 t1 t2 h H locs ls hP hl
    unfold B_X6_makesByHand_37 at h
    refine lv_iadd hx hb dX6_makesByHand_37 ?_
    obtain ⟨c7, h⟩ := chk h
    refine vt_iast S hF hP (hlt _ (by decide)) rfl c7 dX6_makesByHand_38 (fun H locs hP => ?_)
    exact hB39 _ _ h _ _ _ hP (lv_sub hl [0] rfl)
  have hB36 : ∀ (w : Wo) (x3 : Int32) (t0 : Int32) (t1 : Int32), B_X6_makesByHand_36 w x3 t0 t1 = some r → ∀ (H : Heap) (locs : List Loc) (ls : Array Slot), St P s w H locs → lv_has ls 4 [(3, .int x3)] → W p l e (rmU 3 0 0) s m args below meth c H locs 0 0 (QI P (some .int) r.1 r.2 below args s) (F0 m 36 ls [.int t0, .int t1, .ref (P.2.1 27)]) := by
    intro w x3 t0 t1 h H locs ls hP hl
    unfold B_X6_makesByHand_36 at h
    refine lv_iconst (v := 0) hx hb dX6_makesByHand_36 (by decide) ?_
    exact hB37 _ _ _ _ _ h _ _ _ hP (lv_sub hl [0] rfl)
  unfold F_X6_makesByHand at h
  refine lv_aload_n hx hb dX6_makesByHand_0 rfl (lv_at hl 0 rfl) ?_
  obtain ⟨q1, hq1, h⟩ := ob h
  refine vu_i hP (vu_V S hF hP (h := 26) (hlt _ (by decide)) rfl (by decide) rfl (c_X6_homes l P hA hn w hq1) ok_X6_homes ml_X6_134 ⟨Nat.le_of_ble_eq_true rfl, Nat.le_of_ble_eq_true rfl⟩ rfl hl.1 rfl (Nat.le_of_ble_eq_true rfl) dX6_makesByHand_1 ⟨Nat.le_of_ble_eq_true rfl, Nat.le_of_ble_eq_true rfl⟩) (fun H locs ho2 hP => ?_)
  refine lv_istore_n (lv' := [(2, .int q1.1), (0, .ref (P.2.1 26)), (1, .int x1)]) hx hb dX6_makesByHand_4 rfl hl (by decide) rfl (fun ls hl => ?_)
  refine lv_aload_n hx hb dX6_makesByHand_5 rfl (lv_at hl 1 rfl) ?_
  refine lv_iload_n hx hb dX6_makesByHand_6 rfl (lv_at hl 2 rfl) ?_
  obtain ⟨q3, hq3, h⟩ := ob h
  refine vu_i hP (vu_V S hF hP (h := 26) (hlt _ (by decide)) rfl (by decide) rfl (c_X6_makes l P hA hn q1.2 x1 hq3) ok_X6_makes ml_X6_137 ⟨Nat.le_of_ble_eq_true rfl, Nat.le_of_ble_eq_true rfl⟩ rfl hl.1 rfl (Nat.le_of_ble_eq_true rfl) dX6_makesByHand_7 ⟨Nat.le_of_ble_eq_true rfl, Nat.le_of_ble_eq_true rfl⟩) (fun H locs ho4 hP => ?_)
  refine lv_istore_n (lv' := [(3, .int q3.1), (2, .int q1.1), (0, .ref (P.2.1 26)), (1, .int x1)]) hx hb dX6_makesByHand_10 rfl hl (by decide) rfl (fun ls hl => ?_)
  refine lv_aload_n hx hb dX6_makesByHand_11 rfl (lv_at hl 2 rfl) ?_
  refine vt_getR (r := 27) S hF hP (k := 0) (ci := 6) 26 (hlt _ (by decide)) rfl (by decide) rfl (by decide) rfl rfl (inC_X6 _) (List.mem_cons_of_mem _ fl_X6_7) dX6_makesByHand_12 ?_
  refine lv_bipush (v := 7) hx hb dX6_makesByHand_15 (by decide) ?_
  refine lv_dup2_11 hx hb dX6_makesByHand_17 rfl rfl ?_
  refine vt_ialdK 7 (by decide) S hF hP (hlt _ (by decide)) rfl (by decide) dX6_makesByHand_18 ?_
  refine lv_iload_n hx hb dX6_makesByHand_19 rfl (lv_at hl 0 rfl) ?_
  refine lv_aload_n hx hb dX6_makesByHand_20 rfl (lv_at hl 2 rfl) ?_
  obtain ⟨q5, hq5, h⟩ := ob h
  refine vu_i hP (vu_V S hF hP (h := 26) (hlt _ (by decide)) rfl (by decide) rfl (c_X6_places l P hA hn q3.2 hq5) ok_X6_places ml_X6_66 ⟨Nat.le_of_ble_eq_true rfl, Nat.le_of_ble_eq_true rfl⟩ rfl hl.1 rfl (Nat.le_of_ble_eq_true rfl) dX6_makesByHand_21 ⟨Nat.le_of_ble_eq_true rfl, Nat.le_of_ble_eq_true rfl⟩) (fun H locs ho6 hP => ?_)
  refine lv_icmp_ne (tgt := 36) hx hb dX6_makesByHand_24 (by decide) (fun c8 => ?_) (fun c8 => ?_)
  · rw [if_neg c8] at h
    exact hB36 _ _ _ _ h _ _ _ hP (lv_sub hl [0] rfl)
  · rw [if_pos c8] at h
    refine lv_iload_n hx hb dX6_makesByHand_27 rfl (lv_at hl 1 rfl) ?_
    refine lv_iload_n hx hb dX6_makesByHand_28 rfl (lv_at hl 0 rfl) ?_
    refine lv_icmp_ge (tgt := 36) hx hb dX6_makesByHand_29 (by decide) (fun c9 => ?_) (fun c9 => ?_)
    · rw [if_pos c9] at h
      exact hB36 _ _ _ _ h _ _ _ hP (lv_sub hl [0] rfl)
    · rw [if_neg c9] at h
      refine lv_iconst (v := 1) hx hb dX6_makesByHand_32 (by decide) ?_
      refine lv_goto (tgt := 37) hx hb dX6_makesByHand_33 (by decide) ?_
      exact hB37 _ _ _ _ _ h _ _ _ hP (lv_sub hl [0] rfl)
