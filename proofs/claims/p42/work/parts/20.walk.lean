set_option maxRecDepth 100000 in
set_option maxHeartbeats 4000000 in
theorem c_X0_places (l : Launch) (P : Pl) (hA : Adr P) (hn : 26 ≤ P.2.2.2.1) (w : Wo) : CtI l P yX0_places cX0_places 1 (some .int) 0 [.ref (P.2.1 1)] w (F_X0_places w) w := by
  have hlt : ∀ h, h < 26 → h < P.2.2.2.1 := fun h q => Nat.lt_of_lt_of_le q hn
  obtain ⟨r, h⟩ : ∃ r, F_X0_places w = r := ⟨_, rfl⟩
  rw [h]
  refine vs_met hA (by decide +kernel) (Nat.le_of_ble_eq_true rfl) (fun p e s m args below meth c ls S hF hP hl hr hk => ?_)
  have hx := S.1
  have hb := S.2.1
  replace hl : lv_has ls 1 [(0, .ref (P.2.1 1))] := hl
  unfold F_X0_places at h
  refine lv_aload_n hx hb dX0_places_0 rfl (lv_at hl 0 rfl) ?_
  refine vt_getI S hF hP (k := 0) (ci := 0) 1 (hlt _ (by decide)) rfl (by decide) rfl (by decide) rfl (inC_X0 _) (List.mem_cons_of_mem _ fl_X0_9) dX0_places_1 ?_
  refine lv_aload_n hx hb dX0_places_4 rfl (lv_at hl 0 rfl) ?_
  refine vt_getI S hF hP (k := 1) (ci := 0) 1 (hlt _ (by decide)) rfl (by decide) rfl (by decide) rfl (inC_X0 _) (List.mem_cons_of_mem _ fl_X0_15) dX0_places_5 ?_
  refine lv_imul hx hb dX0_places_8 ?_
  subst h
  exact ve_i (v := ((gI w 1 0) * (gI w 1 1))) S hF hP hr hk rfl dX0_places_9
set_option maxRecDepth 100000 in
set_option maxHeartbeats 4000000 in
theorem c_X5_withCode (l : Launch) (P : Pl) (hA : Adr P) (hn : 26 ≤ P.2.2.2.1) (w : Wo) (x0 : Int64) (x2 : Int32) (x3 : Int32) : CtL l P yX5_withCode cX5_withCode 6 (some .long) 0 [.long x0, .int x2, .int x3] w (F_X5_withCode x0 x2 x3) w := by
  have hlt : ∀ h, h < 26 → h < P.2.2.2.1 := fun h q => Nat.lt_of_lt_of_le q hn
  obtain ⟨r, h⟩ : ∃ r, F_X5_withCode x0 x2 x3 = r := ⟨_, rfl⟩
  rw [h]
  refine vs_met hA (by decide +kernel) (Nat.le_of_ble_eq_true rfl) (fun p e s m args below meth c ls S hF hP hl hr hk => ?_)
  have hx := S.1
  have hb := S.2.1
  replace hl : lv_has ls 6 [(0, .long x0), (2, .int x2), (3, .int x3)] := hl
  have hB15 : ∀ (x2 : Int32) (x3 : Int32) (x4 : Int64), B_X5_withCode_15 x2 x3 x4 = r → ∀ (H : Heap) (locs : List Loc) (ls : Array Slot), St P s w H locs → lv_has ls 6 [(2, .int x2), (3, .int x3), (4, .long x4)] → W p l e (rmU 0 0 0) s m args below meth c H locs 0 0 (QL P r w below args s) (F0 m 15 ls []) := by
    intro x2 x3 x4 h H locs ls hP hl
    unfold B_X5_withCode_15 at h
    refine lv_lload hx hb dX5_withCode_15 (lv_at hl 2 rfl) ?_
    refine lv_iload_n hx hb dX5_withCode_17 rfl (lv_at hl 1 rfl) ?_
    refine lv_i2l hx hb dX5_withCode_18 rfl ?_
    refine lv_iconst (v := 4) hx hb dX5_withCode_19 (by decide) ?_
    refine lv_iload_n hx hb dX5_withCode_20 rfl (lv_at hl 0 rfl) ?_
    refine lv_imul hx hb dX5_withCode_21 ?_
    refine lv_lshl hx hb dX5_withCode_22 rfl ?_
    refine lv_lor hx hb dX5_withCode_23 ?_
    subst h
    exact ve_l S hF hP hr hk dX5_withCode_24
  unfold F_X5_withCode at h
  refine lv_lload_n hx hb dX5_withCode_0 rfl (lv_at hl 0 rfl) ?_
  refine lv_ldc2 (v := 15) hx hb S.2.2.2.1 (S.2.2.2.2 _ (List.mem_cons_of_mem _ cl_X5_399)) dX5_withCode_1 ?_
  refine lv_iconst (v := 4) hx hb dX5_withCode_4 (by decide) ?_
  refine lv_iload_n hx hb dX5_withCode_5 rfl (lv_at hl 1 rfl) ?_
  refine lv_imul hx hb dX5_withCode_6 ?_
  refine lv_lshl hx hb dX5_withCode_7 rfl ?_
  refine lv_ldc2 (v := (-1)) hx hb S.2.2.2.1 (S.2.2.2.2 _ (List.mem_cons_of_mem _ cl_X5_401)) dX5_withCode_8 ?_
  refine lv_lxor hx hb dX5_withCode_11 ?_
  refine lv_land hx hb dX5_withCode_12 ?_
  refine lv_lstore (lv' := [(4, .long (x0 &&& ((jlshl (15 : Int64) ((4 : Int32) * x2)) ^^^ ((-1) : Int64)))), (0, .long x0), (2, .int x2), (3, .int x3)]) hx hb dX5_withCode_13 hl (by decide) rfl (fun ls hl => ?_)
  exact hB15 _ _ _ h _ _ _ hP (lv_sub hl [2, 3, 0] rfl)
set_option maxRecDepth 100000 in
set_option maxHeartbeats 4000000 in
theorem c_X0_lay (l : Launch) (P : Pl) (hA : Adr P) (hn : 26 ≤ P.2.2.2.1) (w : Wo) (x1 : Int32) (x2 : Int32) {r : Wo} (h : F_X0_lay w x1 x2 = some r) : CtV l P yX0_lay cX0_lay 4 none 1 [.ref (P.2.1 1), .int x1, .int x2] w r := by
  have hlt : ∀ h, h < 26 → h < P.2.2.2.1 := fun h q => Nat.lt_of_lt_of_le q hn
  refine vs_met hA (by decide +kernel) (Nat.le_of_ble_eq_true rfl) (fun p e s m args below meth c ls S hF hP hl hr hk => ?_)
  have hx := S.1
  have hb := S.2.1
  replace hl : lv_has ls 4 [(0, .ref (P.2.1 1)), (1, .int x1), (2, .int x2)] := hl
  have hB52 : ∀ (w : Wo), B_X0_lay_52 w = some r → ∀ (H : Heap) (locs : List Loc) (ls : Array Slot), St P s w H locs → lv_has ls 4 [(0, .ref (P.2.1 1))] → W p l e (rmU 1 0 0) s m args below meth c H locs 0 0 (QV P r below args s) (F0 m 52 ls []) := by
    intro w h H locs ls hP hl
    unfold B_X0_lay_52 at h
    refine lv_aload_n hx hb dX0_lay_52 rfl (lv_at hl 0 rfl) ?_
    refine lv_iconst (v := 0) hx hb dX0_lay_53 (by decide) ?_
    refine vt_putI S hF hP (k := 4) (ci := 0) 1 (hlt _ (by decide)) rfl (by decide) rfl (by decide) rfl tyX0 tyX0_ok nmX0 rfl rfl rfl rfl (by decide) (inC_X0 _) (List.mem_cons_of_mem _ fl_X0_25) dX0_lay_54 (fun H locs hP => ?_)
    obtain rfl := Option.some.inj h
    exact ve_v S hF hP hr hk dX0_lay_57
  have hB44 : ∀ (w : Wo), B_X0_lay_44 w = some r → ∀ (H : Heap) (locs : List Loc) (ls : Array Slot), St P s w H locs → lv_has ls 4 [(0, .ref (P.2.1 1))] → W p l e (rmU 1 0 0) s m args below meth c H locs 0 0 (QV P r below args s) (F0 m 44 ls []) := by
    intro w h H locs ls hP hl
    unfold B_X0_lay_44 at h
    refine lv_aload_n hx hb dX0_lay_44 rfl (lv_at hl 0 rfl) ?_
    refine lv_aload_n hx hb dX0_lay_45 rfl (lv_at hl 0 rfl) ?_
    refine vt_getL S hF hP (k := 2) (ci := 0) 1 (hlt _ (by decide)) rfl (by decide) rfl (by decide) rfl (inC_X0 _) (List.mem_cons_of_mem _ fl_X0_18) dX0_lay_46 ?_
    refine vt_putL S hF hP (k := 3) (ci := 0) 1 (hlt _ (by decide)) rfl (by decide) rfl (by decide) rfl tyX0 tyX0_ok nmX0 rfl rfl (by decide) (inC_X0 _) (List.mem_cons_of_mem _ fl_X0_22) dX0_lay_49 (fun H locs hP => ?_)
    exact hB52 _ h _ _ _ hP (lv_sub hl [0] rfl)
  have hL17 : ∀ (n : Nat) (w : Wo) (x3 : Int32), jl2 (B_X0_lay_17) n w x3 = some r → ∀ (H : Heap) (locs : List Loc) (ls : Array Slot), St P s w H locs → lv_has ls 4 [(0, .ref (P.2.1 1)), (3, .int x3)] → W p l e (rmU 1 0 0) s m args below meth c H locs 0 0 (QV P r below args s) (F0 m 17 ls []) := by
    intro n
    induction n with
    | zero =>
      intro w x3 h
      cases h
    | succ n ih17 =>
      intro w x3 h H locs ls hP hl
      replace h : B_X0_lay_17 (jl2 (B_X0_lay_17) n) w x3 = some r := h
      revert h ih17
      generalize jl2 (B_X0_lay_17) n = k17
      intro ih17 h
      have hB38 : ∀ (w : Wo) (x3 : Int32), B_X0_lay_38 k17 w x3 = some r → ∀ (H : Heap) (locs : List Loc) (ls : Array Slot), St P s w H locs → lv_has ls 4 [(0, .ref (P.2.1 1)), (3, .int x3)] → W p l e (rmU 1 0 0) s m args below meth c H locs 0 0 (QV P r below args s) (F0 m 38 ls []) := by
        intro w x3 h H locs ls hP hl
        unfold B_X0_lay_38 at h
        refine lv_iinc (v := (x3 + 1)) (lv' := [(3, .int (x3 + 1)), (0, .ref (P.2.1 1))]) hx hb dX0_lay_38 hl (k := 1) rfl rfl (by decide) rfl (fun ls hl => ?_)
        refine lv_goto (tgt := 17) hx hb dX0_lay_41 (by decide) ?_
        exact ih17 _ _ h _ _ _ hP (lv_sub hl [1, 0] rfl)
      unfold B_X0_lay_17 at h
      refine lv_iload_n hx hb dX0_lay_17 rfl (lv_at hl 1 rfl) ?_
      refine lv_aload_n hx hb dX0_lay_18 rfl (lv_at hl 0 rfl) ?_
      refine vu_i hP (vu_V S hF hP (h := 1) (hlt _ (by decide)) rfl (by decide) rfl (c_X0_places l P hA hn w) ok_X0_places ml_X0_46 ⟨Nat.le_of_ble_eq_true rfl, Nat.le_of_ble_eq_true rfl⟩ rfl hl.1 rfl (Nat.le_of_ble_eq_true rfl) dX0_lay_19 ⟨Nat.le_of_ble_eq_true rfl, Nat.le_of_ble_eq_true rfl⟩) (fun H locs ho1 hP => ?_)
      refine lv_icmp_ge (tgt := 44) hx hb dX0_lay_22 (by decide) (fun c2 => ?_) (fun c2 => ?_)
      · rw [if_pos c2] at h
        exact hB44 _ h _ _ _ hP (lv_sub hl [0] rfl)
      · rw [if_neg c2] at h
        refine lv_aload_n hx hb dX0_lay_25 rfl (lv_at hl 0 rfl) ?_
        refine lv_aload_n hx hb dX0_lay_26 rfl (lv_at hl 0 rfl) ?_
        refine vt_getL S hF hP (k := 2) (ci := 0) 1 (hlt _ (by decide)) rfl (by decide) rfl (by decide) rfl (inC_X0 _) (List.mem_cons_of_mem _ fl_X0_18) dX0_lay_27 ?_
        refine lv_iload_n hx hb dX0_lay_30 rfl (lv_at hl 1 rfl) ?_
        refine lv_iload_n hx hb dX0_lay_31 rfl (lv_at hl 1 rfl) ?_
        refine vu_l hP (vu_SN S hF hP (host := RX5) (c_X5_withCode l P hA hn w (gL w 1 2) x3 x3) ok_X5_withCode (by decide +kernel) ⟨Nat.le_of_ble_eq_true rfl, Nat.le_of_ble_eq_true rfl⟩ rfl hl.1 rfl (Nat.le_of_ble_eq_true rfl) dX0_lay_32 ⟨Nat.le_of_ble_eq_true rfl, Nat.le_of_ble_eq_true rfl⟩) (fun H locs hP => ?_)
        refine vt_putL S hF hP (k := 2) (ci := 0) 1 (hlt _ (by decide)) rfl (by decide) rfl (by decide) rfl tyX0 tyX0_ok nmX0 rfl rfl (by decide) (inC_X0 _) (List.mem_cons_of_mem _ fl_X0_18) dX0_lay_35 (fun H locs hP => ?_)
        exact hB38 _ _ h _ _ _ hP (lv_sub hl [0, 1] rfl)
  have hB15 : ∀ (w : Wo), B_X0_lay_15 w = some r → ∀ (H : Heap) (locs : List Loc) (ls : Array Slot), St P s w H locs → lv_has ls 4 [(0, .ref (P.2.1 1))] → W p l e (rmU 1 0 0) s m args below meth c H locs 0 0 (QV P r below args s) (F0 m 15 ls []) := by
    intro w h H locs ls hP hl
    unfold B_X0_lay_15 at h
    refine lv_iconst (v := 0) hx hb dX0_lay_15 (by decide) ?_
    refine lv_istore_n (lv' := [(3, .int 0), (0, .ref (P.2.1 1))]) hx hb dX0_lay_16 rfl hl (by decide) rfl (fun ls hl => ?_)
    exact hL17 fu _ _ h _ _ _ hP (lv_sub hl [1, 0] rfl)
  have hB10 : ∀ (w : Wo), B_X0_lay_10 w = some r → ∀ (H : Heap) (locs : List Loc) (ls : Array Slot), St P s w H locs → lv_has ls 4 [(0, .ref (P.2.1 1))] → W p l e (rmU 1 0 0) s m args below meth c H locs 0 0 (QV P r below args s) (F0 m 10 ls []) := by
    intro w h H locs ls hP hl
    unfold B_X0_lay_10 at h
    refine lv_aload_n hx hb dX0_lay_10 rfl (lv_at hl 0 rfl) ?_
    refine lv_lconst (v := 0) hx hb dX0_lay_11 (by decide) ?_
    refine vt_putL S hF hP (k := 2) (ci := 0) 1 (hlt _ (by decide)) rfl (by decide) rfl (by decide) rfl tyX0 tyX0_ok nmX0 rfl rfl (by decide) (inC_X0 _) (List.mem_cons_of_mem _ fl_X0_18) dX0_lay_12 (fun H locs hP => ?_)
    exact hB15 _ h _ _ _ hP (lv_sub hl [0] rfl)
  have hB5 : ∀ (w : Wo) (x2 : Int32), B_X0_lay_5 w x2 = some r → ∀ (H : Heap) (locs : List Loc) (ls : Array Slot), St P s w H locs → lv_has ls 4 [(0, .ref (P.2.1 1)), (2, .int x2)] → W p l e (rmU 1 0 0) s m args below meth c H locs 0 0 (QV P r below args s) (F0 m 5 ls []) := by
    intro w x2 h H locs ls hP hl
    unfold B_X0_lay_5 at h
    refine lv_aload_n hx hb dX0_lay_5 rfl (lv_at hl 0 rfl) ?_
    refine lv_iload_n hx hb dX0_lay_6 rfl (lv_at hl 1 rfl) ?_
    refine vt_putI S hF hP (k := 1) (ci := 0) 1 (hlt _ (by decide)) rfl (by decide) rfl (by decide) rfl tyX0 tyX0_ok nmX0 rfl rfl rfl rfl (by decide) (inC_X0 _) (List.mem_cons_of_mem _ fl_X0_15) dX0_lay_7 (fun H locs hP => ?_)
    exact hB10 _ h _ _ _ hP (lv_sub hl [0] rfl)
  unfold F_X0_lay at h
  refine lv_aload_n hx hb dX0_lay_0 rfl (lv_at hl 0 rfl) ?_
  refine lv_iload_n hx hb dX0_lay_1 rfl (lv_at hl 1 rfl) ?_
  refine vt_putI S hF hP (k := 0) (ci := 0) 1 (hlt _ (by decide)) rfl (by decide) rfl (by decide) rfl tyX0 tyX0_ok nmX0 rfl rfl rfl rfl (by decide) (inC_X0 _) (List.mem_cons_of_mem _ fl_X0_9) dX0_lay_2 (fun H locs hP => ?_)
  exact hB5 _ _ h _ _ _ hP (lv_sub hl [0, 2] rfl)
set_option maxRecDepth 100000 in
set_option maxHeartbeats 4000000 in
theorem c_X5_isSide (l : Launch) (P : Pl) (hA : Adr P) (hn : 26 ≤ P.2.2.2.1) (w : Wo) (x0 : Int32) : CtI l P yX5_isSide cX5_isSide 1 (some .boolean) 0 [.int x0] w (F_X5_isSide x0) w := by
  have hlt : ∀ h, h < 26 → h < P.2.2.2.1 := fun h q => Nat.lt_of_lt_of_le q hn
  obtain ⟨r, h⟩ : ∃ r, F_X5_isSide x0 = r := ⟨_, rfl⟩
  rw [h]
  refine vs_met hA (by decide +kernel) (Nat.le_of_ble_eq_true rfl) (fun p e s m args below meth c ls S hF hP hl hr hk => ?_)
  have hx := S.1
  have hb := S.2.1
  replace hl : lv_has ls 1 [(0, .int x0)] := hl
  unfold F_X5_isSide at h
  refine lv_iload_n hx hb dX5_isSide_0 rfl (lv_at hl 0 rfl) ?_
  refine lv_iconst (v := 2) hx hb dX5_isSide_1 (by decide) ?_
  refine lv_icmp_lt (tgt := 14) hx hb dX5_isSide_2 (by decide) (fun c1 => ?_) (fun c1 => ?_)
  · rw [if_pos c1] at h
    refine lv_iconst (v := 0) hx hb dX5_isSide_14 (by decide) ?_
    subst h
    exact ve_i (v := 0) S hF hP hr hk rfl dX5_isSide_15
  · rw [if_neg c1] at h
    refine lv_iload_n hx hb dX5_isSide_5 rfl (lv_at hl 0 rfl) ?_
    refine lv_iconst (v := 3) hx hb dX5_isSide_6 (by decide) ?_
    refine lv_icmp_gt (tgt := 14) hx hb dX5_isSide_7 (by decide) (fun c2 => ?_) (fun c2 => ?_)
    · rw [if_pos c2] at h
      refine lv_iconst (v := 0) hx hb dX5_isSide_14 (by decide) ?_
      subst h
      exact ve_i (v := 0) S hF hP hr hk rfl dX5_isSide_15
    · rw [if_neg c2] at h
      refine lv_iconst (v := 1) hx hb dX5_isSide_10 (by decide) ?_
      refine lv_goto (tgt := 15) hx hb dX5_isSide_11 (by decide) ?_
      subst h
      exact ve_i (v := 1) S hF hP hr hk rfl dX5_isSide_15
set_option maxRecDepth 100000 in
set_option maxHeartbeats 4000000 in
theorem c_X0_hasPlace (l : Launch) (P : Pl) (hA : Adr P) (hn : 26 ≤ P.2.2.2.1) (w : Wo) (x1 : Int32) : CtI l P yX0_hasPlace cX0_hasPlace 2 (some .boolean) 1 [.ref (P.2.1 1), .int x1] w (F_X0_hasPlace w x1) w := by
  have hlt : ∀ h, h < 26 → h < P.2.2.2.1 := fun h q => Nat.lt_of_lt_of_le q hn
  obtain ⟨r, h⟩ : ∃ r, F_X0_hasPlace w x1 = r := ⟨_, rfl⟩
  rw [h]
  refine vs_met hA (by decide +kernel) (Nat.le_of_ble_eq_true rfl) (fun p e s m args below meth c ls S hF hP hl hr hk => ?_)
  have hx := S.1
  have hb := S.2.1
  replace hl : lv_has ls 2 [(0, .ref (P.2.1 1)), (1, .int x1)] := hl
  unfold F_X0_hasPlace at h
  refine lv_iload_n hx hb dX0_hasPlace_0 rfl (lv_at hl 1 rfl) ?_
  refine lv_if_lt (tgt := 16) hx hb dX0_hasPlace_1 (by decide) (fun c2 => ?_) (fun c2 => ?_)
  · rw [if_pos c2] at h
    refine lv_iconst (v := 0) hx hb dX0_hasPlace_16 (by decide) ?_
    subst h
    exact ve_i (v := 0) S hF hP hr hk rfl dX0_hasPlace_17
  · rw [if_neg c2] at h
    refine lv_iload_n hx hb dX0_hasPlace_4 rfl (lv_at hl 1 rfl) ?_
    refine lv_aload_n hx hb dX0_hasPlace_5 rfl (lv_at hl 0 rfl) ?_
    refine vu_i hP (vu_V S hF hP (h := 1) (hlt _ (by decide)) rfl (by decide) rfl (c_X0_places l P hA hn w) ok_X0_places ml_X0_46 ⟨Nat.le_of_ble_eq_true rfl, Nat.le_of_ble_eq_true rfl⟩ rfl hl.1 rfl (Nat.le_of_ble_eq_true rfl) dX0_hasPlace_6 ⟨Nat.le_of_ble_eq_true rfl, Nat.le_of_ble_eq_true rfl⟩) (fun H locs ho1 hP => ?_)
    refine lv_icmp_ge (tgt := 16) hx hb dX0_hasPlace_9 (by decide) (fun c3 => ?_) (fun c3 => ?_)
    · rw [if_pos c3] at h
      refine lv_iconst (v := 0) hx hb dX0_hasPlace_16 (by decide) ?_
      subst h
      exact ve_i (v := 0) S hF hP hr hk rfl dX0_hasPlace_17
    · rw [if_neg c3] at h
      refine lv_iconst (v := 1) hx hb dX0_hasPlace_12 (by decide) ?_
      refine lv_goto (tgt := 17) hx hb dX0_hasPlace_13 (by decide) ?_
      subst h
      exact ve_i (v := 1) S hF hP hr hk rfl dX0_hasPlace_17
set_option maxRecDepth 100000 in
set_option maxHeartbeats 4000000 in
theorem c_X5_codeAt (l : Launch) (P : Pl) (hA : Adr P) (hn : 26 ≤ P.2.2.2.1) (w : Wo) (x0 : Int64) (x2 : Int32) : CtI l P yX5_codeAt cX5_codeAt 3 (some .int) 0 [.long x0, .int x2] w (F_X5_codeAt x0 x2) w := by
  have hlt : ∀ h, h < 26 → h < P.2.2.2.1 := fun h q => Nat.lt_of_lt_of_le q hn
  obtain ⟨r, h⟩ : ∃ r, F_X5_codeAt x0 x2 = r := ⟨_, rfl⟩
  rw [h]
  refine vs_met hA (by decide +kernel) (Nat.le_of_ble_eq_true rfl) (fun p e s m args below meth c ls S hF hP hl hr hk => ?_)
  have hx := S.1
  have hb := S.2.1
  replace hl : lv_has ls 3 [(0, .long x0), (2, .int x2)] := hl
  unfold F_X5_codeAt at h
  refine lv_lload_n hx hb dX5_codeAt_0 rfl (lv_at hl 0 rfl) ?_
  refine lv_iconst (v := 4) hx hb dX5_codeAt_1 (by decide) ?_
  refine lv_iload_n hx hb dX5_codeAt_2 rfl (lv_at hl 1 rfl) ?_
  refine lv_imul hx hb dX5_codeAt_3 ?_
  refine lv_lushr hx hb dX5_codeAt_4 rfl ?_
  refine lv_ldc2 (v := 15) hx hb S.2.2.2.1 (S.2.2.2.2 _ (List.mem_cons_of_mem _ cl_X5_399)) dX5_codeAt_5 ?_
  refine lv_land hx hb dX5_codeAt_8 ?_
  refine lv_l2i hx hb dX5_codeAt_9 rfl ?_
  subst h
  exact ve_i (v := (jl2i ((jlushr x0 ((4 : Int32) * x2)) &&& (15 : Int64)))) S hF hP hr hk rfl dX5_codeAt_10
set_option maxRecDepth 100000 in
set_option maxHeartbeats 4000000 in
theorem c_X5_refuse (l : Launch) (P : Pl) (hA : Adr P) (hn : 26 ≤ P.2.2.2.1) (w : Wo) (x1 : Int32) (x2 : Int32) {r : Int32 × Wo} (h : F_X5_refuse w x1 x2 = some r) : CtI l P yX5_refuse cX5_refuse 3 (some .int) 0 [.ref (P.2.1 0), .int x1, .int x2] w r.1 r.2 := by
  have hlt : ∀ h, h < 26 → h < P.2.2.2.1 := fun h q => Nat.lt_of_lt_of_le q hn
  refine vs_met hA (by decide +kernel) (Nat.le_of_ble_eq_true rfl) (fun p e s m args below meth c ls S hF hP hl hr hk => ?_)
  have hx := S.1
  have hb := S.2.1
  replace hl : lv_has ls 3 [(0, .ref (P.2.1 0)), (1, .int x1), (2, .int x2)] := hl
  have hB10 : ∀ (w : Wo), B_X5_refuse_10 w = some r → ∀ (H : Heap) (locs : List Loc) (ls : Array Slot), St P s w H locs → lv_has ls 3 [] → W p l e (rmU 0 0 0) s m args below meth c H locs 0 0 (QI P (some .int) r.1 r.2 below args s) (F0 m 10 ls []) := by
    intro w h H locs ls hP hl
    unfold B_X5_refuse_10 at h
    refine lv_iconst (v := 3) hx hb dX5_refuse_10 (by decide) ?_
    obtain rfl := Option.some.inj h
    exact ve_i (v := 3) S hF hP hr hk rfl dX5_refuse_11
  have hB5 : ∀ (w : Wo) (x2 : Int32), B_X5_refuse_5 w x2 = some r → ∀ (H : Heap) (locs : List Loc) (ls : Array Slot), St P s w H locs → lv_has ls 3 [(0, .ref (P.2.1 0)), (2, .int x2)] → W p l e (rmU 0 0 0) s m args below meth c H locs 0 0 (QI P (some .int) r.1 r.2 below args s) (F0 m 5 ls []) := by
    intro w x2 h H locs ls hP hl
    unfold B_X5_refuse_5 at h
    refine lv_aload_n hx hb dX5_refuse_5 rfl (lv_at hl 0 rfl) ?_
    refine lv_iload_n hx hb dX5_refuse_6 rfl (lv_at hl 1 rfl) ?_
    refine vt_putI S hF hP (k := 11) (ci := 5) 0 (hlt _ (by decide)) rfl (by decide) rfl (by decide) rfl tyX5 tyX5_ok nmX5 rfl rfl rfl rfl (by decide) (inC_X5 _) (List.mem_cons_of_mem _ fl_X5_64) dX5_refuse_7 (fun H locs hP => ?_)
    exact hB10 _ h _ _ _ hP (lv_sub hl [] rfl)
  unfold F_X5_refuse at h
  refine lv_aload_n hx hb dX5_refuse_0 rfl (lv_at hl 0 rfl) ?_
  refine lv_iload_n hx hb dX5_refuse_1 rfl (lv_at hl 1 rfl) ?_
  refine vt_putI S hF hP (k := 10) (ci := 5) 0 (hlt _ (by decide)) rfl (by decide) rfl (by decide) rfl tyX5 tyX5_ok nmX5 rfl rfl rfl rfl (by decide) (inC_X5 _) (List.mem_cons_of_mem _ fl_X5_61) dX5_refuse_2 (fun H locs hP => ?_)
  exact hB5 _ _ h _ _ _ hP (lv_sub hl [0, 2] rfl)
set_option maxRecDepth 100000 in
set_option maxHeartbeats 4000000 in
theorem c_X5_judgeSign (l : Launch) (P : Pl) (hA : Adr P) (hn : 26 ≤ P.2.2.2.1) (w : Wo) (x1 : Int32) (x2 : Int32) (x3 : Int64) (x5 : Int32) {r : Int32 × Wo} (h : F_X5_judgeSign w x1 x2 x3 x5 = some r) : CtI l P yX5_judgeSign cX5_judgeSign 6 (some .int) 2 [.ref (P.2.1 0), .int x1, .int x2, .long x3, .int x5] w r.1 r.2 := by
  have hlt : ∀ h, h < 26 → h < P.2.2.2.1 := fun h q => Nat.lt_of_lt_of_le q hn
  refine vs_met hA (by decide +kernel) (Nat.le_of_ble_eq_true rfl) (fun p e s m args below meth c ls S hF hP hl hr hk => ?_)
  have hx := S.1
  have hb := S.2.1
  replace hl : lv_has ls 6 [(0, .ref (P.2.1 0)), (1, .int x1), (2, .int x2), (3, .long x3), (5, .int x5)] := hl
  unfold F_X5_judgeSign at h
  refine lv_aload_n hx hb dX5_judgeSign_0 rfl (lv_at hl 0 rfl) ?_
  refine vt_getR (r := 1) S hF hP (k := 0) (ci := 5) 0 (hlt _ (by decide)) rfl (by decide) rfl (by decide) rfl rfl (inC_X5 _) (List.mem_cons_of_mem _ fl_X5_12) dX5_judgeSign_1 ?_
  refine lv_iload_n hx hb dX5_judgeSign_4 rfl (lv_at hl 1 rfl) ?_
  refine vu_i hP (vu_V S hF hP (h := 1) (hlt _ (by decide)) rfl (by decide) rfl (c_X0_hasPlace l P hA hn w x1) ok_X0_hasPlace ml_X5_143 ⟨Nat.le_of_ble_eq_true rfl, Nat.le_of_ble_eq_true rfl⟩ rfl hl.1 rfl (Nat.le_of_ble_eq_true rfl) dX5_judgeSign_5 ⟨Nat.le_of_ble_eq_true rfl, Nat.le_of_ble_eq_true rfl⟩) (fun H locs ho1 hP => ?_)
  refine lv_if_ne (tgt := 13) hx hb dX5_judgeSign_8 (by decide) (fun c5 => ?_) (fun c5 => ?_)
  · rw [if_neg c5] at h
    refine lv_iload_n hx hb dX5_judgeSign_13 rfl (lv_at hl 2 rfl) ?_
    refine lv_if_lt (tgt := 23) hx hb dX5_judgeSign_14 (by decide) (fun c6 => ?_) (fun c6 => ?_)
    · rw [if_pos c6] at h
      refine lv_iconst (v := 2) hx hb dX5_judgeSign_23 (by decide) ?_
      obtain rfl := Option.some.inj h
      exact ve_i (v := 2) S hF hP hr hk rfl dX5_judgeSign_24
    · rw [if_neg c6] at h
      refine lv_iload_n hx hb dX5_judgeSign_17 rfl (lv_at hl 2 rfl) ?_
      refine lv_iload hx hb dX5_judgeSign_18 (lv_at hl 4 rfl) ?_
      refine lv_icmp_le (tgt := 25) hx hb dX5_judgeSign_20 (by decide) (fun c7 => ?_) (fun c7 => ?_)
      · rw [if_pos c7] at h
        refine lv_lload_n hx hb dX5_judgeSign_25 rfl (lv_at hl 3 rfl) ?_
        refine lv_iload_n hx hb dX5_judgeSign_26 rfl (lv_at hl 1 rfl) ?_
        refine vu_i hP (vu_S S hF hP (c_X5_codeAt l P hA hn w x3 x1) ok_X5_codeAt ml_X5_91 ⟨Nat.le_of_ble_eq_true rfl, Nat.le_of_ble_eq_true rfl⟩ rfl hl.1 rfl (Nat.le_of_ble_eq_true rfl) dX5_judgeSign_27 ⟨Nat.le_of_ble_eq_true rfl, Nat.le_of_ble_eq_true rfl⟩) (fun H locs ho2 hP => ?_)
        refine lv_iload_n hx hb dX5_judgeSign_30 rfl (lv_at hl 2 rfl) ?_
        refine lv_icmp_ne (tgt := 43) hx hb dX5_judgeSign_31 (by decide) (fun c8 => ?_) (fun c8 => ?_)
        · rw [if_neg c8] at h
          refine lv_iconst (v := 0) hx hb dX5_judgeSign_43 (by decide) ?_
          obtain rfl := Option.some.inj h
          exact ve_i (v := 0) S hF hP hr hk rfl dX5_judgeSign_44
        · rw [if_pos c8] at h
          refine lv_aload_n hx hb dX5_judgeSign_34 rfl (lv_at hl 0 rfl) ?_
          refine lv_iconst (v := 2) hx hb dX5_judgeSign_35 (by decide) ?_
          refine lv_iload_n hx hb dX5_judgeSign_36 rfl (lv_at hl 1 rfl) ?_
          obtain ⟨q3, hq3, h⟩ := ob h
          refine vu_i hP (vu_V S hF hP (h := 0) (hlt _ (by decide)) rfl (by decide) rfl (c_X5_refuse l P hA hn w 2 x1 hq3) ok_X5_refuse ml_X5_350 ⟨Nat.le_of_ble_eq_true rfl, Nat.le_of_ble_eq_true rfl⟩ rfl hl.1 rfl (Nat.le_of_ble_eq_true rfl) dX5_judgeSign_37 ⟨Nat.le_of_ble_eq_true rfl, Nat.le_of_ble_eq_true rfl⟩) (fun H locs ho4 hP => ?_)
          refine lv_goto (tgt := 44) hx hb dX5_judgeSign_40 (by decide) ?_
          obtain rfl := Option.some.inj h
          exact ve_i (v := q3.1) S hF hP hr hk rfl dX5_judgeSign_44
      · rw [if_neg c7] at h
        refine lv_iconst (v := 2) hx hb dX5_judgeSign_23 (by decide) ?_
        obtain rfl := Option.some.inj h
        exact ve_i (v := 2) S hF hP hr hk rfl dX5_judgeSign_24
  · rw [if_pos c5] at h
    refine lv_iconst (v := 1) hx hb dX5_judgeSign_11 (by decide) ?_
    obtain rfl := Option.some.inj h
    exact ve_i (v := 1) S hF hP hr hk rfl dX5_judgeSign_12
set_option maxRecDepth 100000 in
set_option maxHeartbeats 4000000 in
theorem c_X0_lines (l : Launch) (P : Pl) (hA : Adr P) (hn : 26 ≤ P.2.2.2.1) (w : Wo) : CtI l P yX0_lines cX0_lines 1 (some .int) 0 [.ref (P.2.1 1)] w (F_X0_lines w) w := by
  have hlt : ∀ h, h < 26 → h < P.2.2.2.1 := fun h q => Nat.lt_of_lt_of_le q hn
  obtain ⟨r, h⟩ : ∃ r, F_X0_lines w = r := ⟨_, rfl⟩
  rw [h]
  refine vs_met hA (by decide +kernel) (Nat.le_of_ble_eq_true rfl) (fun p e s m args below meth c ls S hF hP hl hr hk => ?_)
  have hx := S.1
  have hb := S.2.1
  replace hl : lv_has ls 1 [(0, .ref (P.2.1 1))] := hl
  unfold F_X0_lines at h
  refine lv_aload_n hx hb dX0_lines_0 rfl (lv_at hl 0 rfl) ?_
  refine vt_getI S hF hP (k := 0) (ci := 0) 1 (hlt _ (by decide)) rfl (by decide) rfl (by decide) rfl (inC_X0 _) (List.mem_cons_of_mem _ fl_X0_9) dX0_lines_1 ?_
  refine lv_aload_n hx hb dX0_lines_4 rfl (lv_at hl 0 rfl) ?_
  refine vt_getI S hF hP (k := 1) (ci := 0) 1 (hlt _ (by decide)) rfl (by decide) rfl (by decide) rfl (inC_X0 _) (List.mem_cons_of_mem _ fl_X0_15) dX0_lines_5 ?_
  refine lv_iadd hx hb dX0_lines_8 ?_
  subst h
  exact ve_i (v := ((gI w 1 0) + (gI w 1 1))) S hF hP hr hk rfl dX0_lines_9
set_option maxRecDepth 100000 in
set_option maxHeartbeats 4000000 in
theorem c_X0_turns (l : Launch) (P : Pl) (hA : Adr P) (hn : 26 ≤ P.2.2.2.1) (w : Wo) : CtI l P yX0_turns cX0_turns 1 (some .int) 1 [.ref (P.2.1 1)] w (F_X0_turns w) w := by
  have hlt : ∀ h, h < 26 → h < P.2.2.2.1 := fun h q => Nat.lt_of_lt_of_le q hn
  obtain ⟨r, h⟩ : ∃ r, F_X0_turns w = r := ⟨_, rfl⟩
  rw [h]
  refine vs_met hA (by decide +kernel) (Nat.le_of_ble_eq_true rfl) (fun p e s m args below meth c ls S hF hP hl hr hk => ?_)
  have hx := S.1
  have hb := S.2.1
  replace hl : lv_has ls 1 [(0, .ref (P.2.1 1))] := hl
  unfold F_X0_turns at h
  refine lv_iconst (v := 2) hx hb dX0_turns_0 (by decide) ?_
  refine lv_aload_n hx hb dX0_turns_1 rfl (lv_at hl 0 rfl) ?_
  refine vu_i hP (vu_V S hF hP (h := 1) (hlt _ (by decide)) rfl (by decide) rfl (c_X0_lines l P hA hn w) ok_X0_lines ml_X0_54 ⟨Nat.le_of_ble_eq_true rfl, Nat.le_of_ble_eq_true rfl⟩ rfl hl.1 rfl (Nat.le_of_ble_eq_true rfl) dX0_turns_2 ⟨Nat.le_of_ble_eq_true rfl, Nat.le_of_ble_eq_true rfl⟩) (fun H locs ho1 hP => ?_)
  refine lv_imul hx hb dX0_turns_5 ?_
  subst h
  exact ve_i (v := ((2 : Int32) * (F_X0_lines w))) S hF hP hr hk rfl dX0_turns_6
set_option maxRecDepth 100000 in
set_option maxHeartbeats 4000000 in
theorem c_X0_hasTurn (l : Launch) (P : Pl) (hA : Adr P) (hn : 26 ≤ P.2.2.2.1) (w : Wo) (x1 : Int32) : CtI l P yX0_hasTurn cX0_hasTurn 2 (some .boolean) 2 [.ref (P.2.1 1), .int x1] w (F_X0_hasTurn w x1) w := by
  have hlt : ∀ h, h < 26 → h < P.2.2.2.1 := fun h q => Nat.lt_of_lt_of_le q hn
  obtain ⟨r, h⟩ : ∃ r, F_X0_hasTurn w x1 = r := ⟨_, rfl⟩
  rw [h]
  refine vs_met hA (by decide +kernel) (Nat.le_of_ble_eq_true rfl) (fun p e s m args below meth c ls S hF hP hl hr hk => ?_)
  have hx := S.1
  have hb := S.2.1
  replace hl : lv_has ls 2 [(0, .ref (P.2.1 1)), (1, .int x1)] := hl
  unfold F_X0_hasTurn at h
  refine lv_iload_n hx hb dX0_hasTurn_0 rfl (lv_at hl 1 rfl) ?_
  refine lv_if_lt (tgt := 16) hx hb dX0_hasTurn_1 (by decide) (fun c2 => ?_) (fun c2 => ?_)
  · rw [if_pos c2] at h
    refine lv_iconst (v := 0) hx hb dX0_hasTurn_16 (by decide) ?_
    subst h
    exact ve_i (v := 0) S hF hP hr hk rfl dX0_hasTurn_17
  · rw [if_neg c2] at h
    refine lv_iload_n hx hb dX0_hasTurn_4 rfl (lv_at hl 1 rfl) ?_
    refine lv_aload_n hx hb dX0_hasTurn_5 rfl (lv_at hl 0 rfl) ?_
    refine vu_i hP (vu_V S hF hP (h := 1) (hlt _ (by decide)) rfl (by decide) rfl (c_X0_turns l P hA hn w) ok_X0_turns ml_X0_57 ⟨Nat.le_of_ble_eq_true rfl, Nat.le_of_ble_eq_true rfl⟩ rfl hl.1 rfl (Nat.le_of_ble_eq_true rfl) dX0_hasTurn_6 ⟨Nat.le_of_ble_eq_true rfl, Nat.le_of_ble_eq_true rfl⟩) (fun H locs ho1 hP => ?_)
    refine lv_icmp_ge (tgt := 16) hx hb dX0_hasTurn_9 (by decide) (fun c3 => ?_) (fun c3 => ?_)
    · rw [if_pos c3] at h
      refine lv_iconst (v := 0) hx hb dX0_hasTurn_16 (by decide) ?_
      subst h
      exact ve_i (v := 0) S hF hP hr hk rfl dX0_hasTurn_17
    · rw [if_neg c3] at h
      refine lv_iconst (v := 1) hx hb dX0_hasTurn_12 (by decide) ?_
      refine lv_goto (tgt := 17) hx hb dX0_hasTurn_13 (by decide) ?_
      subst h
      exact ve_i (v := 1) S hF hP hr hk rfl dX0_hasTurn_17
set_option maxRecDepth 100000 in
set_option maxHeartbeats 4000000 in
theorem c_X0_hasBar (l : Launch) (P : Pl) (hA : Adr P) (hn : 26 ≤ P.2.2.2.1) (w : Wo) (x1 : Int32) : CtI l P yX0_hasBar cX0_hasBar 2 (some .boolean) 0 [.ref (P.2.1 1), .int x1] w (F_X0_hasBar w x1) w := by
  have hlt : ∀ h, h < 26 → h < P.2.2.2.1 := fun h q => Nat.lt_of_lt_of_le q hn
  obtain ⟨r, h⟩ : ∃ r, F_X0_hasBar w x1 = r := ⟨_, rfl⟩
  rw [h]
  refine vs_met hA (by decide +kernel) (Nat.le_of_ble_eq_true rfl) (fun p e s m args below meth c ls S hF hP hl hr hk => ?_)
  have hx := S.1
  have hb := S.2.1
  replace hl : lv_has ls 2 [(0, .ref (P.2.1 1)), (1, .int x1)] := hl
  unfold F_X0_hasBar at h
  refine lv_aload_n hx hb dX0_hasBar_0 rfl (lv_at hl 0 rfl) ?_
  refine vt_getI S hF hP (k := 4) (ci := 0) 1 (hlt _ (by decide)) rfl (by decide) rfl (by decide) rfl (inC_X0 _) (List.mem_cons_of_mem _ fl_X0_25) dX0_hasBar_1 ?_
  refine lv_iload_n hx hb dX0_hasBar_4 rfl (lv_at hl 1 rfl) ?_
  refine lv_ishr hx hb dX0_hasBar_5 ?_
  refine lv_iconst (v := 1) hx hb dX0_hasBar_6 (by decide) ?_
  refine lv_iand hx hb dX0_hasBar_7 ?_
  refine lv_iconst (v := 1) hx hb dX0_hasBar_8 (by decide) ?_
  refine lv_icmp_ne (tgt := 16) hx hb dX0_hasBar_9 (by decide) (fun c1 => ?_) (fun c1 => ?_)
  · rw [if_neg c1] at h
    refine lv_iconst (v := 0) hx hb dX0_hasBar_16 (by decide) ?_
    subst h
    exact ve_i (v := 0) S hF hP hr hk rfl dX0_hasBar_17
  · rw [if_pos c1] at h
    refine lv_iconst (v := 1) hx hb dX0_hasBar_12 (by decide) ?_
    refine lv_goto (tgt := 17) hx hb dX0_hasBar_13 (by decide) ?_
    subst h
    exact ve_i (v := 1) S hF hP hr hk rfl dX0_hasBar_17
set_option maxRecDepth 100000 in
set_option maxHeartbeats 4000000 in
theorem c_X0_canTurn (l : Launch) (P : Pl) (hA : Adr P) (hn : 26 ≤ P.2.2.2.1) (w : Wo) (x1 : Int32) {r : Int32} (h : F_X0_canTurn w x1 = some r) : CtI l P yX0_canTurn cX0_canTurn 2 (some .boolean) 1 [.ref (P.2.1 1), .int x1] w r w := by
  have hlt : ∀ h, h < 26 → h < P.2.2.2.1 := fun h q => Nat.lt_of_lt_of_le q hn
  refine vs_met hA (by decide +kernel) (Nat.le_of_ble_eq_true rfl) (fun p e s m args below meth c ls S hF hP hl hr hk => ?_)
  have hx := S.1
  have hb := S.2.1
  replace hl : lv_has ls 2 [(0, .ref (P.2.1 1)), (1, .int x1)] := hl
  unfold F_X0_canTurn at h
  refine lv_aload_n hx hb dX0_canTurn_0 rfl (lv_at hl 0 rfl) ?_
  refine lv_iload_n hx hb dX0_canTurn_1 rfl (lv_at hl 1 rfl) ?_
  refine lv_iconst (v := 2) hx hb dX0_canTurn_2 (by decide) ?_
  refine lv_idiv hx hb dX0_canTurn_3 (by decide) ?_
  refine vu_i hP (vu_V S hF hP (h := 1) (hlt _ (by decide)) rfl (by decide) rfl (c_X0_hasBar l P hA hn w (x1 / 2)) ok_X0_hasBar ml_X0_60 ⟨Nat.le_of_ble_eq_true rfl, Nat.le_of_ble_eq_true rfl⟩ rfl hl.1 rfl (Nat.le_of_ble_eq_true rfl) dX0_canTurn_4 ⟨Nat.le_of_ble_eq_true rfl, Nat.le_of_ble_eq_true rfl⟩) (fun H locs ho1 hP => ?_)
  refine lv_if_ne (tgt := 14) hx hb dX0_canTurn_7 (by decide) (fun c2 => ?_) (fun c2 => ?_)
  · rw [if_neg c2] at h
    refine lv_iconst (v := 0) hx hb dX0_canTurn_14 (by decide) ?_
    obtain rfl := Option.some.inj h
    exact ve_i (v := 0) S hF hP hr hk rfl dX0_canTurn_15
  · rw [if_pos c2] at h
    refine lv_iconst (v := 1) hx hb dX0_canTurn_10 (by decide) ?_
    refine lv_goto (tgt := 15) hx hb dX0_canTurn_11 (by decide) ?_
    obtain rfl := Option.some.inj h
    exact ve_i (v := 1) S hF hP hr hk rfl dX0_canTurn_15
set_option maxRecDepth 100000 in
set_option maxHeartbeats 4000000 in
theorem c_X5_judgeTurn (l : Launch) (P : Pl) (hA : Adr P) (hn : 26 ≤ P.2.2.2.1) (w : Wo) (x1 : Int32) {r : Int32 × Wo} (h : F_X5_judgeTurn w x1 = some r) : CtI l P yX5_judgeTurn cX5_judgeTurn 2 (some .int) 3 [.ref (P.2.1 0), .int x1] w r.1 r.2 := by
  have hlt : ∀ h, h < 26 → h < P.2.2.2.1 := fun h q => Nat.lt_of_lt_of_le q hn
  refine vs_met hA (by decide +kernel) (Nat.le_of_ble_eq_true rfl) (fun p e s m args below meth c ls S hF hP hl hr hk => ?_)
  have hx := S.1
  have hb := S.2.1
  replace hl : lv_has ls 2 [(0, .ref (P.2.1 0)), (1, .int x1)] := hl
  unfold F_X5_judgeTurn at h
  refine lv_aload_n hx hb dX5_judgeTurn_0 rfl (lv_at hl 0 rfl) ?_
  refine vt_getR (r := 1) S hF hP (k := 0) (ci := 5) 0 (hlt _ (by decide)) rfl (by decide) rfl (by decide) rfl rfl (inC_X5 _) (List.mem_cons_of_mem _ fl_X5_12) dX5_judgeTurn_1 ?_
  refine lv_iload_n hx hb dX5_judgeTurn_4 rfl (lv_at hl 1 rfl) ?_
  refine vu_i hP (vu_V S hF hP (h := 1) (hlt _ (by decide)) rfl (by decide) rfl (c_X0_hasTurn l P hA hn w x1) ok_X0_hasTurn ml_X5_203 ⟨Nat.le_of_ble_eq_true rfl, Nat.le_of_ble_eq_true rfl⟩ rfl hl.1 rfl (Nat.le_of_ble_eq_true rfl) dX5_judgeTurn_5 ⟨Nat.le_of_ble_eq_true rfl, Nat.le_of_ble_eq_true rfl⟩) (fun H locs ho1 hP => ?_)
  refine lv_if_ne (tgt := 13) hx hb dX5_judgeTurn_8 (by decide) (fun c6 => ?_) (fun c6 => ?_)
  · rw [if_neg c6] at h
    refine lv_aload_n hx hb dX5_judgeTurn_13 rfl (lv_at hl 0 rfl) ?_
    refine vt_getR (r := 1) S hF hP (k := 0) (ci := 5) 0 (hlt _ (by decide)) rfl (by decide) rfl (by decide) rfl rfl (inC_X5 _) (List.mem_cons_of_mem _ fl_X5_12) dX5_judgeTurn_14 ?_
    refine lv_iload_n hx hb dX5_judgeTurn_17 rfl (lv_at hl 1 rfl) ?_
    obtain ⟨q2, hq2, h⟩ := ob h
    refine vu_i hP (vu_V S hF hP (h := 1) (hlt _ (by decide)) rfl (by decide) rfl (c_X0_canTurn l P hA hn w x1 hq2) ok_X0_canTurn ml_X5_353 ⟨Nat.le_of_ble_eq_true rfl, Nat.le_of_ble_eq_true rfl⟩ rfl hl.1 rfl (Nat.le_of_ble_eq_true rfl) dX5_judgeTurn_18 ⟨Nat.le_of_ble_eq_true rfl, Nat.le_of_ble_eq_true rfl⟩) (fun H locs ho3 hP => ?_)
    refine lv_if_eq (tgt := 28) hx hb dX5_judgeTurn_21 (by decide) (fun c7 => ?_) (fun c7 => ?_)
    · rw [if_pos c7] at h
      refine lv_aload_n hx hb dX5_judgeTurn_28 rfl (lv_at hl 0 rfl) ?_
      refine lv_iconst (v := 1) hx hb dX5_judgeTurn_29 (by decide) ?_
      refine lv_iload_n hx hb dX5_judgeTurn_30 rfl (lv_at hl 1 rfl) ?_
      refine lv_iconst (v := 2) hx hb dX5_judgeTurn_31 (by decide) ?_
      refine lv_idiv hx hb dX5_judgeTurn_32 (by decide) ?_
      obtain ⟨q4, hq4, h⟩ := ob h
      refine vu_i hP (vu_V S hF hP (h := 0) (hlt _ (by decide)) rfl (by decide) rfl (c_X5_refuse l P hA hn w 1 (x1 / 2) hq4) ok_X5_refuse ml_X5_350 ⟨Nat.le_of_ble_eq_true rfl, Nat.le_of_ble_eq_true rfl⟩ rfl hl.1 rfl (Nat.le_of_ble_eq_true rfl) dX5_judgeTurn_33 ⟨Nat.le_of_ble_eq_true rfl, Nat.le_of_ble_eq_true rfl⟩) (fun H locs ho5 hP => ?_)
      obtain rfl := Option.some.inj h
      exact ve_i (v := q4.1) S hF hP hr hk rfl dX5_judgeTurn_36
    · rw [if_neg c7] at h
      refine lv_iconst (v := 0) hx hb dX5_judgeTurn_24 (by decide) ?_
      refine lv_goto (tgt := 36) hx hb dX5_judgeTurn_25 (by decide) ?_
      obtain rfl := Option.some.inj h
      exact ve_i (v := 0) S hF hP hr hk rfl dX5_judgeTurn_36
  · rw [if_pos c6] at h
    refine lv_iconst (v := 1) hx hb dX5_judgeTurn_11 (by decide) ?_
    obtain rfl := Option.some.inj h
    exact ve_i (v := 1) S hF hP hr hk rfl dX5_judgeTurn_12
set_option maxRecDepth 100000 in
set_option maxHeartbeats 4000000 in
theorem c_X5_judgeSwap (l : Launch) (P : Pl) (hA : Adr P) (hn : 26 ≤ P.2.2.2.1) (w : Wo) (x1 : Int32) (x2 : Int32) {r : Int32 × Wo} (h : F_X5_judgeSwap w x1 x2 = some r) : CtI l P yX5_judgeSwap cX5_judgeSwap 3 (some .int) 2 [.ref (P.2.1 0), .int x1, .int x2] w r.1 r.2 := by
  have hlt : ∀ h, h < 26 → h < P.2.2.2.1 := fun h q => Nat.lt_of_lt_of_le q hn
  refine vs_met hA (by decide +kernel) (Nat.le_of_ble_eq_true rfl) (fun p e s m args below meth c ls S hF hP hl hr hk => ?_)
  have hx := S.1
  have hb := S.2.1
  replace hl : lv_has ls 3 [(0, .ref (P.2.1 0)), (1, .int x1), (2, .int x2)] := hl
  unfold F_X5_judgeSwap at h
  refine lv_aload_n hx hb dX5_judgeSwap_0 rfl (lv_at hl 0 rfl) ?_
  refine vt_getR (r := 1) S hF hP (k := 0) (ci := 5) 0 (hlt _ (by decide)) rfl (by decide) rfl (by decide) rfl rfl (inC_X5 _) (List.mem_cons_of_mem _ fl_X5_12) dX5_judgeSwap_1 ?_
  refine lv_iload_n hx hb dX5_judgeSwap_4 rfl (lv_at hl 1 rfl) ?_
  refine vu_i hP (vu_V S hF hP (h := 1) (hlt _ (by decide)) rfl (by decide) rfl (c_X0_hasPlace l P hA hn w x1) ok_X0_hasPlace ml_X5_143 ⟨Nat.le_of_ble_eq_true rfl, Nat.le_of_ble_eq_true rfl⟩ rfl hl.1 rfl (Nat.le_of_ble_eq_true rfl) dX5_judgeSwap_5 ⟨Nat.le_of_ble_eq_true rfl, Nat.le_of_ble_eq_true rfl⟩) (fun H locs ho1 hP => ?_)
  refine lv_if_eq (tgt := 22) hx hb dX5_judgeSwap_8 (by decide) (fun c5 => ?_) (fun c5 => ?_)
  · rw [if_pos c5] at h
    refine lv_iconst (v := 1) hx hb dX5_judgeSwap_22 (by decide) ?_
    obtain rfl := Option.some.inj h
    exact ve_i (v := 1) S hF hP hr hk rfl dX5_judgeSwap_23
  · rw [if_neg c5] at h
    refine lv_aload_n hx hb dX5_judgeSwap_11 rfl (lv_at hl 0 rfl) ?_
    refine vt_getR (r := 1) S hF hP (k := 0) (ci := 5) 0 (hlt _ (by decide)) rfl (by decide) rfl (by decide) rfl rfl (inC_X5 _) (List.mem_cons_of_mem _ fl_X5_12) dX5_judgeSwap_12 ?_
    refine lv_iload_n hx hb dX5_judgeSwap_15 rfl (lv_at hl 2 rfl) ?_
    refine vu_i hP (vu_V S hF hP (h := 1) (hlt _ (by decide)) rfl (by decide) rfl (c_X0_hasPlace l P hA hn w x2) ok_X0_hasPlace ml_X5_143 ⟨Nat.le_of_ble_eq_true rfl, Nat.le_of_ble_eq_true rfl⟩ rfl hl.1 rfl (Nat.le_of_ble_eq_true rfl) dX5_judgeSwap_16 ⟨Nat.le_of_ble_eq_true rfl, Nat.le_of_ble_eq_true rfl⟩) (fun H locs ho2 hP => ?_)
    refine lv_if_ne (tgt := 24) hx hb dX5_judgeSwap_19 (by decide) (fun c6 => ?_) (fun c6 => ?_)
    · rw [if_neg c6] at h
      refine lv_iload_n hx hb dX5_judgeSwap_24 rfl (lv_at hl 1 rfl) ?_
      refine lv_iload_n hx hb dX5_judgeSwap_25 rfl (lv_at hl 2 rfl) ?_
      refine lv_icmp_ne (tgt := 38) hx hb dX5_judgeSwap_26 (by decide) (fun c7 => ?_) (fun c7 => ?_)
      · rw [if_neg c7] at h
        refine lv_iconst (v := 0) hx hb dX5_judgeSwap_38 (by decide) ?_
        obtain rfl := Option.some.inj h
        exact ve_i (v := 0) S hF hP hr hk rfl dX5_judgeSwap_39
      · rw [if_pos c7] at h
        refine lv_aload_n hx hb dX5_judgeSwap_29 rfl (lv_at hl 0 rfl) ?_
        refine lv_iconst (v := 3) hx hb dX5_judgeSwap_30 (by decide) ?_
        refine lv_iload_n hx hb dX5_judgeSwap_31 rfl (lv_at hl 1 rfl) ?_
        obtain ⟨q3, hq3, h⟩ := ob h
        refine vu_i hP (vu_V S hF hP (h := 0) (hlt _ (by decide)) rfl (by decide) rfl (c_X5_refuse l P hA hn w 3 x1 hq3) ok_X5_refuse ml_X5_350 ⟨Nat.le_of_ble_eq_true rfl, Nat.le_of_ble_eq_true rfl⟩ rfl hl.1 rfl (Nat.le_of_ble_eq_true rfl) dX5_judgeSwap_32 ⟨Nat.le_of_ble_eq_true rfl, Nat.le_of_ble_eq_true rfl⟩) (fun H locs ho4 hP => ?_)
        refine lv_goto (tgt := 39) hx hb dX5_judgeSwap_35 (by decide) ?_
        obtain rfl := Option.some.inj h
        exact ve_i (v := q3.1) S hF hP hr hk rfl dX5_judgeSwap_39
    · rw [if_pos c6] at h
      refine lv_iconst (v := 1) hx hb dX5_judgeSwap_22 (by decide) ?_
      obtain rfl := Option.some.inj h
      exact ve_i (v := 1) S hF hP hr hk rfl dX5_judgeSwap_23
set_option maxRecDepth 100000 in
set_option maxHeartbeats 4000000 in
theorem c_X0_hasLine (l : Launch) (P : Pl) (hA : Adr P) (hn : 26 ≤ P.2.2.2.1) (w : Wo) (x1 : Int32) : CtI l P yX0_hasLine cX0_hasLine 2 (some .boolean) 1 [.ref (P.2.1 1), .int x1] w (F_X0_hasLine w x1) w := by
  have hlt : ∀ h, h < 26 → h < P.2.2.2.1 := fun h q => Nat.lt_of_lt_of_le q hn
  obtain ⟨r, h⟩ : ∃ r, F_X0_hasLine w x1 = r := ⟨_, rfl⟩
  rw [h]
  refine vs_met hA (by decide +kernel) (Nat.le_of_ble_eq_true rfl) (fun p e s m args below meth c ls S hF hP hl hr hk => ?_)
  have hx := S.1
  have hb := S.2.1
  replace hl : lv_has ls 2 [(0, .ref (P.2.1 1)), (1, .int x1)] := hl
  unfold F_X0_hasLine at h
  refine lv_iload_n hx hb dX0_hasLine_0 rfl (lv_at hl 1 rfl) ?_
  refine lv_if_lt (tgt := 16) hx hb dX0_hasLine_1 (by decide) (fun c2 => ?_) (fun c2 => ?_)
  · rw [if_pos c2] at h
    refine lv_iconst (v := 0) hx hb dX0_hasLine_16 (by decide) ?_
    subst h
    exact ve_i (v := 0) S hF hP hr hk rfl dX0_hasLine_17
  · rw [if_neg c2] at h
    refine lv_iload_n hx hb dX0_hasLine_4 rfl (lv_at hl 1 rfl) ?_
    refine lv_aload_n hx hb dX0_hasLine_5 rfl (lv_at hl 0 rfl) ?_
    refine vu_i hP (vu_V S hF hP (h := 1) (hlt _ (by decide)) rfl (by decide) rfl (c_X0_lines l P hA hn w) ok_X0_lines ml_X0_54 ⟨Nat.le_of_ble_eq_true rfl, Nat.le_of_ble_eq_true rfl⟩ rfl hl.1 rfl (Nat.le_of_ble_eq_true rfl) dX0_hasLine_6 ⟨Nat.le_of_ble_eq_true rfl, Nat.le_of_ble_eq_true rfl⟩) (fun H locs ho1 hP => ?_)
    refine lv_icmp_ge (tgt := 16) hx hb dX0_hasLine_9 (by decide) (fun c3 => ?_) (fun c3 => ?_)
    · rw [if_pos c3] at h
      refine lv_iconst (v := 0) hx hb dX0_hasLine_16 (by decide) ?_
      subst h
      exact ve_i (v := 0) S hF hP hr hk rfl dX0_hasLine_17
    · rw [if_neg c3] at h
      refine lv_iconst (v := 1) hx hb dX0_hasLine_12 (by decide) ?_
      refine lv_goto (tgt := 17) hx hb dX0_hasLine_13 (by decide) ?_
      subst h
      exact ve_i (v := 1) S hF hP hr hk rfl dX0_hasLine_17
set_option maxRecDepth 100000 in
set_option maxHeartbeats 4000000 in
theorem c_X5_judgeScramble (l : Launch) (P : Pl) (hA : Adr P) (hn : 26 ≤ P.2.2.2.1) (w : Wo) (x1 : Int32) (x2 : Int32) : CtI l P yX5_judgeScramble cX5_judgeScramble 4 (some .int) 0 [.ref (P.2.1 0), .int x1, .int x2] w (F_X5_judgeScramble x1 x2) w := by
  have hlt : ∀ h, h < 26 → h < P.2.2.2.1 := fun h q => Nat.lt_of_lt_of_le q hn
  obtain ⟨r, h⟩ : ∃ r, F_X5_judgeScramble x1 x2 = r := ⟨_, rfl⟩
  rw [h]
  refine vs_met hA (by decide +kernel) (Nat.le_of_ble_eq_true rfl) (fun p e s m args below meth c ls S hF hP hl hr hk => ?_)
  have hx := S.1
  have hb := S.2.1
  replace hl : lv_has ls 4 [(0, .ref (P.2.1 0)), (1, .int x1), (2, .int x2)] := hl
  have hB16 : ∀ (x2 : Int32) (t0 : Int32), B_X5_judgeScramble_16 x2 t0 = r → ∀ (H : Heap) (locs : List Loc) (ls : Array Slot), St P s w H locs → lv_has ls 4 [(2, .int x2)] → W p l e (rmU 0 0 0) s m args below meth c H locs 0 0 (QI P (some .int) r w below args s) (F0 m 16 ls [.int t0]) := by
    intro x2 t0 h H locs ls hP hl
    unfold B_X5_judgeScramble_16 at h
    refine lv_istore_n (lv' := [(3, .int t0), (2, .int x2)]) hx hb dX5_judgeScramble_16 rfl hl (by decide) rfl (fun ls hl => ?_)
    refine lv_iload_n hx hb dX5_judgeScramble_17 rfl (lv_at hl 0 rfl) ?_
    refine lv_if_eq (tgt := 36) hx hb dX5_judgeScramble_18 (by decide) (fun c1 => ?_) (fun c1 => ?_)
    · rw [if_pos c1] at h
      refine lv_iconst (v := 2) hx hb dX5_judgeScramble_36 (by decide) ?_
      subst h
      exact ve_i (v := 2) S hF hP hr hk rfl dX5_judgeScramble_37
    · rw [if_neg c1] at h
      refine lv_iload_n hx hb dX5_judgeScramble_21 rfl (lv_at hl 1 rfl) ?_
      refine lv_iconst (v := 1) hx hb dX5_judgeScramble_22 (by decide) ?_
      refine lv_icmp_lt (tgt := 36) hx hb dX5_judgeScramble_23 (by decide) (fun c2 => ?_) (fun c2 => ?_)
      · rw [if_pos c2] at h
        refine lv_iconst (v := 2) hx hb dX5_judgeScramble_36 (by decide) ?_
        subst h
        exact ve_i (v := 2) S hF hP hr hk rfl dX5_judgeScramble_37
      · rw [if_neg c2] at h
        refine lv_iload_n hx hb dX5_judgeScramble_26 rfl (lv_at hl 1 rfl) ?_
        refine lv_bipush (v := 9) hx hb dX5_judgeScramble_27 (by decide) ?_
        refine lv_icmp_gt (tgt := 36) hx hb dX5_judgeScramble_29 (by decide) (fun c3 => ?_) (fun c3 => ?_)
        · rw [if_pos c3] at h
          refine lv_iconst (v := 2) hx hb dX5_judgeScramble_36 (by decide) ?_
          subst h
          exact ve_i (v := 2) S hF hP hr hk rfl dX5_judgeScramble_37
        · rw [if_neg c3] at h
          refine lv_iconst (v := 0) hx hb dX5_judgeScramble_32 (by decide) ?_
          refine lv_goto (tgt := 37) hx hb dX5_judgeScramble_33 (by decide) ?_
          subst h
          exact ve_i (v := 0) S hF hP hr hk rfl dX5_judgeScramble_37
  have hB15 : ∀ (x2 : Int32), B_X5_judgeScramble_15 x2 = r → ∀ (H : Heap) (locs : List Loc) (ls : Array Slot), St P s w H locs → lv_has ls 4 [(2, .int x2)] → W p l e (rmU 0 0 0) s m args below meth c H locs 0 0 (QI P (some .int) r w below args s) (F0 m 15 ls []) := by
    intro x2 h H locs ls hP hl
    unfold B_X5_judgeScramble_15 at h
    refine lv_iconst (v := 0) hx hb dX5_judgeScramble_15 (by decide) ?_
    exact hB16 _ _ h _ _ _ hP (lv_sub hl [0] rfl)
  unfold F_X5_judgeScramble at h
  refine lv_iload_n hx hb dX5_judgeScramble_0 rfl (lv_at hl 1 rfl) ?_
  refine lv_if_lt (tgt := 15) hx hb dX5_judgeScramble_1 (by decide) (fun c4 => ?_) (fun c4 => ?_)
  · rw [if_pos c4] at h
    exact hB15 _ h _ _ _ hP (lv_sub hl [2] rfl)
  · rw [if_neg c4] at h
    refine lv_iload_n hx hb dX5_judgeScramble_4 rfl (lv_at hl 1 rfl) ?_
    refine lv_sipush (v := 999) hx hb dX5_judgeScramble_5 (by decide) ?_
    refine lv_icmp_gt (tgt := 15) hx hb dX5_judgeScramble_8 (by decide) (fun c5 => ?_) (fun c5 => ?_)
    · rw [if_pos c5] at h
      exact hB15 _ h _ _ _ hP (lv_sub hl [2] rfl)
    · rw [if_neg c5] at h
      refine lv_iconst (v := 1) hx hb dX5_judgeScramble_11 (by decide) ?_
      refine lv_goto (tgt := 16) hx hb dX5_judgeScramble_12 (by decide) ?_
      exact hB16 _ _ h _ _ _ hP (lv_sub hl [2] rfl)
set_option maxRecDepth 100000 in
set_option maxHeartbeats 4000000 in
theorem c_X5_judge (l : Launch) (P : Pl) (hA : Adr P) (hn : 26 ≤ P.2.2.2.1) (w : Wo) (x1 : Int32) (x2 : Int32) (x3 : Int32) {r : Int32 × Wo} (h : F_X5_judge w x1 x2 x3 = some r) : CtI l P yX5_judge cX5_judge 4 (some .int) 4 [.ref (P.2.1 0), .int x1, .int x2, .int x3] w r.1 r.2 := by
  have hlt : ∀ h, h < 26 → h < P.2.2.2.1 := fun h q => Nat.lt_of_lt_of_le q hn
  refine vs_met hA (by decide +kernel) (Nat.le_of_ble_eq_true rfl) (fun p e s m args below meth c ls S hF hP hl hr hk => ?_)
  have hx := S.1
  have hb := S.2.1
  replace hl : lv_has ls 4 [(0, .ref (P.2.1 0)), (1, .int x1), (2, .int x2), (3, .int x3)] := hl
  unfold F_X5_judge at h
  refine lv_iload_n hx hb dX5_judge_0 rfl (lv_at hl 1 rfl) ?_
  by_cases c13 : x1 = 98
  · rw [if_pos c13] at h
    refine lv_tableIn (off := 107) (tgt := 108) hx hb dX5_judge_1 (by rw [c13]; decide) (by rw [c13]; decide) (by rw [c13]; rfl) (by decide) ?_
    refine lv_iload_n hx hb dX5_judge_108 rfl (lv_at hl 2 rfl) ?_
    refine vu_i hP (vu_S S hF hP (c_X5_isSide l P hA hn w x2) ok_X5_isSide ml_X5_334 ⟨Nat.le_of_ble_eq_true rfl, Nat.le_of_ble_eq_true rfl⟩ rfl hl.1 rfl (Nat.le_of_ble_eq_true rfl) dX5_judge_109 ⟨Nat.le_of_ble_eq_true rfl, Nat.le_of_ble_eq_true rfl⟩) (fun H locs ho1 hP => ?_)
    refine lv_if_eq (tgt := 126) hx hb dX5_judge_112 (by decide) (fun c14 => ?_) (fun c14 => ?_)
    · rw [if_pos c14] at h
      refine lv_iconst (v := 2) hx hb dX5_judge_126 (by decide) ?_
      obtain rfl := Option.some.inj h
      exact ve_i (v := 2) S hF hP hr hk rfl dX5_judge_127
    · rw [if_neg c14] at h
      refine lv_iload_n hx hb dX5_judge_115 rfl (lv_at hl 3 rfl) ?_
      refine vu_i hP (vu_S S hF hP (c_X5_isSide l P hA hn w x3) ok_X5_isSide ml_X5_334 ⟨Nat.le_of_ble_eq_true rfl, Nat.le_of_ble_eq_true rfl⟩ rfl hl.1 rfl (Nat.le_of_ble_eq_true rfl) dX5_judge_116 ⟨Nat.le_of_ble_eq_true rfl, Nat.le_of_ble_eq_true rfl⟩) (fun H locs ho2 hP => ?_)
      refine lv_if_eq (tgt := 126) hx hb dX5_judge_119 (by decide) (fun c15 => ?_) (fun c15 => ?_)
      · rw [if_pos c15] at h
        refine lv_iconst (v := 2) hx hb dX5_judge_126 (by decide) ?_
        obtain rfl := Option.some.inj h
        exact ve_i (v := 2) S hF hP hr hk rfl dX5_judge_127
      · rw [if_neg c15] at h
        refine lv_iconst (v := 0) hx hb dX5_judge_122 (by decide) ?_
        refine lv_goto (tgt := 127) hx hb dX5_judge_123 (by decide) ?_
        obtain rfl := Option.some.inj h
        exact ve_i (v := 0) S hF hP hr hk rfl dX5_judge_127
  rw [if_neg c13] at h
  by_cases c16 : x1 = 99
  · rw [if_pos c16] at h
    refine lv_tableIn (off := 196) (tgt := 197) hx hb dX5_judge_1 (by rw [c16]; decide) (by rw [c16]; decide) (by rw [c16]; rfl) (by decide) ?_
    refine lv_iconst (v := 2) hx hb dX5_judge_197 (by decide) ?_
    obtain rfl := Option.some.inj h
    exact ve_i (v := 2) S hF hP hr hk rfl dX5_judge_198
  rw [if_neg c16] at h
  by_cases c17 : x1 = 100
  · rw [if_pos c17] at h
    refine lv_tableIn (off := 196) (tgt := 197) hx hb dX5_judge_1 (by rw [c17]; decide) (by rw [c17]; decide) (by rw [c17]; rfl) (by decide) ?_
    refine lv_iconst (v := 2) hx hb dX5_judge_197 (by decide) ?_
    obtain rfl := Option.some.inj h
    exact ve_i (v := 2) S hF hP hr hk rfl dX5_judge_198
  rw [if_neg c17] at h
  by_cases c18 : x1 = 101
  · rw [if_pos c18] at h
    refine lv_tableIn (off := 196) (tgt := 197) hx hb dX5_judge_1 (by rw [c18]; decide) (by rw [c18]; decide) (by rw [c18]; rfl) (by decide) ?_
    refine lv_iconst (v := 2) hx hb dX5_judge_197 (by decide) ?_
    obtain rfl := Option.some.inj h
    exact ve_i (v := 2) S hF hP hr hk rfl dX5_judge_198
  rw [if_neg c18] at h
  by_cases c19 : x1 = 102
  · rw [if_pos c19] at h
    refine lv_tableIn (off := 196) (tgt := 197) hx hb dX5_judge_1 (by rw [c19]; decide) (by rw [c19]; decide) (by rw [c19]; rfl) (by decide) ?_
    refine lv_iconst (v := 2) hx hb dX5_judge_197 (by decide) ?_
    obtain rfl := Option.some.inj h
    exact ve_i (v := 2) S hF hP hr hk rfl dX5_judge_198
  rw [if_neg c19] at h
  by_cases c20 : x1 = 103
  · rw [if_pos c20] at h
    refine lv_tableIn (off := 143) (tgt := 144) hx hb dX5_judge_1 (by rw [c20]; decide) (by rw [c20]; decide) (by rw [c20]; rfl) (by decide) ?_
    refine lv_aload_n hx hb dX5_judge_144 rfl (lv_at hl 0 rfl) ?_
    refine lv_iload_n hx hb dX5_judge_145 rfl (lv_at hl 2 rfl) ?_
    refine lv_iload_n hx hb dX5_judge_146 rfl (lv_at hl 3 rfl) ?_
    refine lv_aload_n hx hb dX5_judge_147 rfl (lv_at hl 0 rfl) ?_
    refine vt_getR (r := 1) S hF hP (k := 0) (ci := 5) 0 (hlt _ (by decide)) rfl (by decide) rfl (by decide) rfl rfl (inC_X5 _) (List.mem_cons_of_mem _ fl_X5_12) dX5_judge_148 ?_
    refine vt_getL S hF hP (k := 3) (ci := 0) 1 (hlt _ (by decide)) rfl (by decide) rfl (by decide) rfl (inC_X0 _) (List.mem_cons_of_mem _ fl_X5_99) dX5_judge_151 ?_
    refine lv_bipush (v := 12) hx hb dX5_judge_154 (by decide) ?_
    obtain ⟨q3, hq3, h⟩ := ob h
    refine vu_i hP (vu_V S hF hP (h := 0) (hlt _ (by decide)) rfl (by decide) rfl (c_X5_judgeSign l P hA hn w x2 x3 (gL w 1 3) 12 hq3) ok_X5_judgeSign ml_X5_337 ⟨Nat.le_of_ble_eq_true rfl, Nat.le_of_ble_eq_true rfl⟩ rfl hl.1 rfl (Nat.le_of_ble_eq_true rfl) dX5_judge_156 ⟨Nat.le_of_ble_eq_true rfl, Nat.le_of_ble_eq_true rfl⟩) (fun H locs ho4 hP => ?_)
    obtain rfl := Option.some.inj h
    exact ve_i (v := q3.1) S hF hP hr hk rfl dX5_judge_159
  rw [if_neg c20] at h
  by_cases c21 : x1 = 104
  · rw [if_pos c21] at h
    refine lv_tableIn (off := 196) (tgt := 197) hx hb dX5_judge_1 (by rw [c21]; decide) (by rw [c21]; decide) (by rw [c21]; rfl) (by decide) ?_
    refine lv_iconst (v := 2) hx hb dX5_judge_197 (by decide) ?_
    obtain rfl := Option.some.inj h
    exact ve_i (v := 2) S hF hP hr hk rfl dX5_judge_198
  rw [if_neg c21] at h
  by_cases c22 : x1 = 105
  · rw [if_pos c22] at h
    refine lv_tableIn (off := 196) (tgt := 197) hx hb dX5_judge_1 (by rw [c22]; decide) (by rw [c22]; decide) (by rw [c22]; rfl) (by decide) ?_
    refine lv_iconst (v := 2) hx hb dX5_judge_197 (by decide) ?_
    obtain rfl := Option.some.inj h
    exact ve_i (v := 2) S hF hP hr hk rfl dX5_judge_198
  rw [if_neg c22] at h
  by_cases c23 : x1 = 106
  · rw [if_pos c23] at h
    refine lv_tableIn (off := 196) (tgt := 197) hx hb dX5_judge_1 (by rw [c23]; decide) (by rw [c23]; decide) (by rw [c23]; rfl) (by decide) ?_
    refine lv_iconst (v := 2) hx hb dX5_judge_197 (by decide) ?_
    obtain rfl := Option.some.inj h
    exact ve_i (v := 2) S hF hP hr hk rfl dX5_judge_198
  rw [if_neg c23] at h
  by_cases c24 : x1 = 107
  · rw [if_pos c24] at h
    refine lv_tableIn (off := 196) (tgt := 197) hx hb dX5_judge_1 (by rw [c24]; decide) (by rw [c24]; decide) (by rw [c24]; rfl) (by decide) ?_
    refine lv_iconst (v := 2) hx hb dX5_judge_197 (by decide) ?_
    obtain rfl := Option.some.inj h
    exact ve_i (v := 2) S hF hP hr hk rfl dX5_judge_198
  rw [if_neg c24] at h
  by_cases c25 : x1 = 108
  · rw [if_pos c25] at h
    refine lv_tableIn (off := 196) (tgt := 197) hx hb dX5_judge_1 (by rw [c25]; decide) (by rw [c25]; decide) (by rw [c25]; rfl) (by decide) ?_
    refine lv_iconst (v := 2) hx hb dX5_judge_197 (by decide) ?_
    obtain rfl := Option.some.inj h
    exact ve_i (v := 2) S hF hP hr hk rfl dX5_judge_198
  rw [if_neg c25] at h
  by_cases c26 : x1 = 109
  · rw [if_pos c26] at h
    refine lv_tableIn (off := 196) (tgt := 197) hx hb dX5_judge_1 (by rw [c26]; decide) (by rw [c26]; decide) (by rw [c26]; rfl) (by decide) ?_
    refine lv_iconst (v := 2) hx hb dX5_judge_197 (by decide) ?_
    obtain rfl := Option.some.inj h
    exact ve_i (v := 2) S hF hP hr hk rfl dX5_judge_198
  rw [if_neg c26] at h
  by_cases c27 : x1 = 110
  · rw [if_pos c27] at h
    refine lv_tableIn (off := 196) (tgt := 197) hx hb dX5_judge_1 (by rw [c27]; decide) (by rw [c27]; decide) (by rw [c27]; rfl) (by decide) ?_
    refine lv_iconst (v := 2) hx hb dX5_judge_197 (by decide) ?_
    obtain rfl := Option.some.inj h
    exact ve_i (v := 2) S hF hP hr hk rfl dX5_judge_198
  rw [if_neg c27] at h
  by_cases c28 : x1 = 111
  · rw [if_pos c28] at h
    refine lv_tableIn (off := 196) (tgt := 197) hx hb dX5_judge_1 (by rw [c28]; decide) (by rw [c28]; decide) (by rw [c28]; rfl) (by decide) ?_
    refine lv_iconst (v := 2) hx hb dX5_judge_197 (by decide) ?_
    obtain rfl := Option.some.inj h
    exact ve_i (v := 2) S hF hP hr hk rfl dX5_judge_198
  rw [if_neg c28] at h
  by_cases c29 : x1 = 112
  · rw [if_pos c29] at h
    refine lv_tableIn (off := 127) (tgt := 128) hx hb dX5_judge_1 (by rw [c29]; decide) (by rw [c29]; decide) (by rw [c29]; rfl) (by decide) ?_
    refine lv_aload_n hx hb dX5_judge_128 rfl (lv_at hl 0 rfl) ?_
    refine lv_iload_n hx hb dX5_judge_129 rfl (lv_at hl 2 rfl) ?_
    refine lv_iload_n hx hb dX5_judge_130 rfl (lv_at hl 3 rfl) ?_
    refine lv_aload_n hx hb dX5_judge_131 rfl (lv_at hl 0 rfl) ?_
    refine vt_getR (r := 1) S hF hP (k := 0) (ci := 5) 0 (hlt _ (by decide)) rfl (by decide) rfl (by decide) rfl rfl (inC_X5 _) (List.mem_cons_of_mem _ fl_X5_12) dX5_judge_132 ?_
    refine vt_getL S hF hP (k := 2) (ci := 0) 1 (hlt _ (by decide)) rfl (by decide) rfl (by decide) rfl (inC_X0 _) (List.mem_cons_of_mem _ fl_X5_83) dX5_judge_135 ?_
    refine lv_bipush (v := 11) hx hb dX5_judge_138 (by decide) ?_
    obtain ⟨q5, hq5, h⟩ := ob h
    refine vu_i hP (vu_V S hF hP (h := 0) (hlt _ (by decide)) rfl (by decide) rfl (c_X5_judgeSign l P hA hn w x2 x3 (gL w 1 2) 11 hq5) ok_X5_judgeSign ml_X5_337 ⟨Nat.le_of_ble_eq_true rfl, Nat.le_of_ble_eq_true rfl⟩ rfl hl.1 rfl (Nat.le_of_ble_eq_true rfl) dX5_judge_140 ⟨Nat.le_of_ble_eq_true rfl, Nat.le_of_ble_eq_true rfl⟩) (fun H locs ho6 hP => ?_)
    obtain rfl := Option.some.inj h
    exact ve_i (v := q5.1) S hF hP hr hk rfl dX5_judge_143
  rw [if_neg c29] at h
  by_cases c30 : x1 = 113
  · rw [if_pos c30] at h
    refine lv_tableIn (off := 196) (tgt := 197) hx hb dX5_judge_1 (by rw [c30]; decide) (by rw [c30]; decide) (by rw [c30]; rfl) (by decide) ?_
    refine lv_iconst (v := 2) hx hb dX5_judge_197 (by decide) ?_
    obtain rfl := Option.some.inj h
    exact ve_i (v := 2) S hF hP hr hk rfl dX5_judge_198
  rw [if_neg c30] at h
  by_cases c31 : x1 = 114
  · rw [if_pos c31] at h
    refine lv_tableIn (off := 189) (tgt := 190) hx hb dX5_judge_1 (by rw [c31]; decide) (by rw [c31]; decide) (by rw [c31]; rfl) (by decide) ?_
    refine lv_aload_n hx hb dX5_judge_190 rfl (lv_at hl 0 rfl) ?_
    refine lv_iload_n hx hb dX5_judge_191 rfl (lv_at hl 2 rfl) ?_
    refine lv_iload_n hx hb dX5_judge_192 rfl (lv_at hl 3 rfl) ?_
    refine vu_i hP (vu_V S hF hP (h := 0) (hlt _ (by decide)) rfl (by decide) rfl (c_X5_judgeScramble l P hA hn w x2 x3) ok_X5_judgeScramble ml_X5_347 ⟨Nat.le_of_ble_eq_true rfl, Nat.le_of_ble_eq_true rfl⟩ rfl hl.1 rfl (Nat.le_of_ble_eq_true rfl) dX5_judge_193 ⟨Nat.le_of_ble_eq_true rfl, Nat.le_of_ble_eq_true rfl⟩) (fun H locs ho7 hP => ?_)
    obtain rfl := Option.some.inj h
    exact ve_i (v := (F_X5_judgeScramble x2 x3)) S hF hP hr hk rfl dX5_judge_196
  rw [if_neg c31] at h
  by_cases c32 : x1 = 115
  · rw [if_pos c32] at h
    refine lv_tableIn (off := 165) (tgt := 166) hx hb dX5_judge_1 (by rw [c32]; decide) (by rw [c32]; decide) (by rw [c32]; rfl) (by decide) ?_
    refine lv_aload_n hx hb dX5_judge_166 rfl (lv_at hl 0 rfl) ?_
    refine lv_iload_n hx hb dX5_judge_167 rfl (lv_at hl 2 rfl) ?_
    refine lv_iload_n hx hb dX5_judge_168 rfl (lv_at hl 3 rfl) ?_
    obtain ⟨q8, hq8, h⟩ := ob h
    refine vu_i hP (vu_V S hF hP (h := 0) (hlt _ (by decide)) rfl (by decide) rfl (c_X5_judgeSwap l P hA hn w x2 x3 hq8) ok_X5_judgeSwap ml_X5_344 ⟨Nat.le_of_ble_eq_true rfl, Nat.le_of_ble_eq_true rfl⟩ rfl hl.1 rfl (Nat.le_of_ble_eq_true rfl) dX5_judge_169 ⟨Nat.le_of_ble_eq_true rfl, Nat.le_of_ble_eq_true rfl⟩) (fun H locs ho9 hP => ?_)
    obtain rfl := Option.some.inj h
    exact ve_i (v := q8.1) S hF hP hr hk rfl dX5_judge_172
  rw [if_neg c32] at h
  by_cases c33 : x1 = 116
  · rw [if_pos c33] at h
    refine lv_tableIn (off := 159) (tgt := 160) hx hb dX5_judge_1 (by rw [c33]; decide) (by rw [c33]; decide) (by rw [c33]; rfl) (by decide) ?_
    refine lv_aload_n hx hb dX5_judge_160 rfl (lv_at hl 0 rfl) ?_
    refine lv_iload_n hx hb dX5_judge_161 rfl (lv_at hl 2 rfl) ?_
    obtain ⟨q10, hq10, h⟩ := ob h
    refine vu_i hP (vu_V S hF hP (h := 0) (hlt _ (by decide)) rfl (by decide) rfl (c_X5_judgeTurn l P hA hn w x2 hq10) ok_X5_judgeTurn ml_X5_341 ⟨Nat.le_of_ble_eq_true rfl, Nat.le_of_ble_eq_true rfl⟩ rfl hl.1 rfl (Nat.le_of_ble_eq_true rfl) dX5_judge_162 ⟨Nat.le_of_ble_eq_true rfl, Nat.le_of_ble_eq_true rfl⟩) (fun H locs ho11 hP => ?_)
    obtain rfl := Option.some.inj h
    exact ve_i (v := q10.1) S hF hP hr hk rfl dX5_judge_165
  rw [if_neg c33] at h
  by_cases c34 : x1 = 117
  · rw [if_pos c34] at h
    refine lv_tableIn (off := 196) (tgt := 197) hx hb dX5_judge_1 (by rw [c34]; decide) (by rw [c34]; decide) (by rw [c34]; rfl) (by decide) ?_
    refine lv_iconst (v := 2) hx hb dX5_judge_197 (by decide) ?_
    obtain rfl := Option.some.inj h
    exact ve_i (v := 2) S hF hP hr hk rfl dX5_judge_198
  rw [if_neg c34] at h
  by_cases c35 : x1 = 118
  · rw [if_pos c35] at h
    refine lv_tableIn (off := 196) (tgt := 197) hx hb dX5_judge_1 (by rw [c35]; decide) (by rw [c35]; decide) (by rw [c35]; rfl) (by decide) ?_
    refine lv_iconst (v := 2) hx hb dX5_judge_197 (by decide) ?_
    obtain rfl := Option.some.inj h
    exact ve_i (v := 2) S hF hP hr hk rfl dX5_judge_198
  rw [if_neg c35] at h
  by_cases c36 : x1 = 119
  · rw [if_pos c36] at h
    refine lv_tableIn (off := 196) (tgt := 197) hx hb dX5_judge_1 (by rw [c36]; decide) (by rw [c36]; decide) (by rw [c36]; rfl) (by decide) ?_
    refine lv_iconst (v := 2) hx hb dX5_judge_197 (by decide) ?_
    obtain rfl := Option.some.inj h
    exact ve_i (v := 2) S hF hP hr hk rfl dX5_judge_198
  rw [if_neg c36] at h
  by_cases c37 : x1 = 120
  · rw [if_pos c37] at h
    refine lv_tableIn (off := 172) (tgt := 173) hx hb dX5_judge_1 (by rw [c37]; decide) (by rw [c37]; decide) (by rw [c37]; rfl) (by decide) ?_
    refine lv_aload_n hx hb dX5_judge_173 rfl (lv_at hl 0 rfl) ?_
    refine vt_getR (r := 1) S hF hP (k := 0) (ci := 5) 0 (hlt _ (by decide)) rfl (by decide) rfl (by decide) rfl rfl (inC_X5 _) (List.mem_cons_of_mem _ fl_X5_12) dX5_judge_174 ?_
    refine lv_iload_n hx hb dX5_judge_177 rfl (lv_at hl 2 rfl) ?_
    refine vu_i hP (vu_V S hF hP (h := 1) (hlt _ (by decide)) rfl (by decide) rfl (c_X0_hasLine l P hA hn w x2) ok_X0_hasLine ml_X5_150 ⟨Nat.le_of_ble_eq_true rfl, Nat.le_of_ble_eq_true rfl⟩ rfl hl.1 rfl (Nat.le_of_ble_eq_true rfl) dX5_judge_178 ⟨Nat.le_of_ble_eq_true rfl, Nat.le_of_ble_eq_true rfl⟩) (fun H locs ho12 hP => ?_)
    refine lv_if_eq (tgt := 188) hx hb dX5_judge_181 (by decide) (fun c38 => ?_) (fun c38 => ?_)
    · rw [if_pos c38] at h
      refine lv_iconst (v := 1) hx hb dX5_judge_188 (by decide) ?_
      obtain rfl := Option.some.inj h
      exact ve_i (v := 1) S hF hP hr hk rfl dX5_judge_189
    · rw [if_neg c38] at h
      refine lv_iconst (v := 0) hx hb dX5_judge_184 (by decide) ?_
      refine lv_goto (tgt := 189) hx hb dX5_judge_185 (by decide) ?_
      obtain rfl := Option.some.inj h
      exact ve_i (v := 0) S hF hP hr hk rfl dX5_judge_189
  rw [if_neg c37] at h
  refine lv_tableOut (tgt := 197) hx hb dX5_judge_1 (sw_out (fun i i1 i2 => ?_)) (by decide) ?_
  · have i3 : i = 98 ∨ i = 99 ∨ i = 100 ∨ i = 101 ∨ i = 102 ∨ i = 103 ∨ i = 104 ∨ i = 105 ∨ i = 106 ∨ i = 107 ∨ i = 108 ∨ i = 109 ∨ i = 110 ∨ i = 111 ∨ i = 112 ∨ i = 113 ∨ i = 114 ∨ i = 115 ∨ i = 116 ∨ i = 117 ∨ i = 118 ∨ i = 119 ∨ i = 120 := by omega
    rcases i3 with rfl | rfl | rfl | rfl | rfl | rfl | rfl | rfl | rfl | rfl | rfl | rfl | rfl | rfl | rfl | rfl | rfl | rfl | rfl | rfl | rfl | rfl | rfl
    · exact c13
    · exact c16
    · exact c17
    · exact c18
    · exact c19
    · exact c20
    · exact c21
    · exact c22
    · exact c23
    · exact c24
    · exact c25
    · exact c26
    · exact c27
    · exact c28
    · exact c29
    · exact c30
    · exact c31
    · exact c32
    · exact c33
    · exact c34
    · exact c35
    · exact c36
    · exact c37
  refine lv_iconst (v := 2) hx hb dX5_judge_197 (by decide) ?_
  obtain rfl := Option.some.inj h
  exact ve_i (v := 2) S hF hP hr hk rfl dX5_judge_198
set_option maxRecDepth 100000 in
set_option maxHeartbeats 4000000 in
theorem c_X5_raise (l : Launch) (P : Pl) (hA : Adr P) (hn : 26 ≤ P.2.2.2.1) (hst : l.stackTraces = false) (w : Wo) (x0 : Int32) {r : (Nat × Wo) ⊕ Wo} (h : F_X5_raise w x0 = some r) : CxV l P yX5_raise cX5_raise 1 none 6 1 [.int x0] w r := by
  have hlt : ∀ h, h < 26 → h < P.2.2.2.1 := fun h q => Nat.lt_of_lt_of_le q hn
  refine vs_vx hA (by decide +kernel) (Nat.le_of_ble_eq_true rfl) (fun p e s m args below meth c ls S hF hP hl hr hk hxt => ?_)
  have hx := S.1
  have hb := S.2.1
  replace hl : lv_has ls 1 [(0, .int x0)] := hl
  unfold F_X5_raise at h
  refine lv_iload_n hx hb dX5_raise_0 rfl (lv_at hl 0 rfl) ?_
  refine lv_iconst (v := 1) hx hb dX5_raise_1 (by decide) ?_
  refine lv_icmp_ne (tgt := 16) hx hb dX5_raise_2 (by decide) (fun c1 => ?_) (fun c1 => ?_)
  · rw [if_neg c1] at h
    refine lv_iload_n hx hb dX5_raise_16 rfl (lv_at hl 0 rfl) ?_
    refine lv_iconst (v := 2) hx hb dX5_raise_17 (by decide) ?_
    refine lv_icmp_ne (tgt := 32) hx hb dX5_raise_18 (by decide) (fun c2 => ?_) (fun c2 => ?_)
    · rw [if_neg c2] at h
      refine lv_iload_n hx hb dX5_raise_32 rfl (lv_at hl 0 rfl) ?_
      refine lv_iconst (v := 3) hx hb dX5_raise_33 (by decide) ?_
      refine lv_icmp_ne (tgt := 48) hx hb dX5_raise_34 (by decide) (fun c3 => ?_) (fun c3 => ?_)
      · rw [if_neg c3] at h
        obtain rfl := Option.some.inj h
        exact ve_xv S hF hP hr hk (by decide) (by decide) dX5_raise_48
      · rw [if_pos c3] at h
        obtain rfl := Option.some.inj h
        exact ve_thrW hst S hF hP (fun _ z => List.mem_cons_of_mem _ z) (is := 325) (text := "it is refused") rfl th_323_327.1 th_323_327.2.1 th_323_327.2.2.1 (by decide +kernel) th_323_327.2.2.2.1 th_323_327.2.2.2.2 hl.1 hk hxt dX5_raise_37 dX5_raise_40 dX5_raise_41 dX5_raise_44 dX5_raise_47 ⟨Nat.le_of_ble_eq_true rfl, Nat.le_of_ble_eq_true rfl, Nat.le_of_ble_eq_true rfl, Nat.le_of_ble_eq_true rfl⟩ (by decide) (by decide)
    · rw [if_pos c2] at h
      obtain rfl := Option.some.inj h
      exact ve_thrW hst S hF hP (fun _ z => List.mem_cons_of_mem _ z) (is := 321) (text := "a number, letter or text is not as it must be") rfl th_174_178.1 th_174_178.2.1 th_174_178.2.2.1 (by decide +kernel) th_174_178.2.2.2.1 th_174_178.2.2.2.2 hl.1 hk hxt dX5_raise_21 dX5_raise_24 dX5_raise_25 dX5_raise_28 dX5_raise_31 ⟨Nat.le_of_ble_eq_true rfl, Nat.le_of_ble_eq_true rfl, Nat.le_of_ble_eq_true rfl, Nat.le_of_ble_eq_true rfl⟩ (by decide) (by decide)
  · rw [if_pos c1] at h
    obtain rfl := Option.some.inj h
    exact ve_thrW hst S hF hP (fun _ z => List.mem_cons_of_mem _ z) (is := 319) (text := "no such place, line or turn") rfl th_314_318.1 th_314_318.2.1 th_314_318.2.2.1 (by decide +kernel) th_314_318.2.2.2.1 th_314_318.2.2.2.2 hl.1 hk hxt dX5_raise_5 dX5_raise_8 dX5_raise_9 dX5_raise_12 dX5_raise_15 ⟨Nat.le_of_ble_eq_true rfl, Nat.le_of_ble_eq_true rfl, Nat.le_of_ble_eq_true rfl, Nat.le_of_ble_eq_true rfl⟩ (by decide) (by decide)
set_option maxRecDepth 100000 in
set_option maxHeartbeats 4000000 in
theorem c_X2_at (l : Launch) (P : Pl) (hA : Adr P) (hn : 26 ≤ P.2.2.2.1) (w : Wo) (x1 : Int32) {r : Nat} (h : F_X2_at w x1 = some r) : CtR l P yX2_at cX2_at 2 (some (.object "VowelTorus$Board")) 0 [.ref (P.2.1 4), .int x1] w r w := by
  have hlt : ∀ h, h < 26 → h < P.2.2.2.1 := fun h q => Nat.lt_of_lt_of_le q hn
  refine vs_met hA (by decide +kernel) (Nat.le_of_ble_eq_true rfl) (fun p e s m args below meth c ls S hF hP hl hr hk => ?_)
  have hx := S.1
  have hb := S.2.1
  replace hl : lv_has ls 2 [(0, .ref (P.2.1 4)), (1, .int x1)] := hl
  have hB22 : B_X2_at_22 w = some r → ∀ (H : Heap) (locs : List Loc) (ls : Array Slot), St P s w H locs → lv_has ls 2 [] → W p l e (rmU 0 0 0) s m args below meth c H locs 0 0 (QR P r w below args s) (F0 m 22 ls []) := by
    intro h H locs ls hP hl
    unfold B_X2_at_22 at h
    refine lv_null hx hb dX2_at_22 ?_
    cases h
  unfold F_X2_at at h
  refine lv_iload_n hx hb dX2_at_0 rfl (lv_at hl 1 rfl) ?_
  refine lv_if_lt (tgt := 22) hx hb dX2_at_1 (by decide) (fun c1 => ?_) (fun c1 => ?_)
  · rw [if_pos c1] at h
    exact hB22 h _ _ _ hP (lv_sub hl [] rfl)
  · rw [if_neg c1] at h
    refine lv_iload_n hx hb dX2_at_4 rfl (lv_at hl 1 rfl) ?_
    refine lv_aload_n hx hb dX2_at_5 rfl (lv_at hl 0 rfl) ?_
    refine vt_getR (r := 5) S hF hP (k := 0) (ci := 2) 4 (hlt _ (by decide)) rfl (by decide) rfl (by decide) rfl rfl (inC_X2 _) (List.mem_cons_of_mem _ fl_X2_11) dX2_at_6 ?_
    refine vt_alen (v := 8) S hF hP (hlt _ (by decide)) rfl (by decide) rfl dX2_at_9 ?_
    refine lv_icmp_ge (tgt := 22) hx hb dX2_at_10 (by decide) (fun c2 => ?_) (fun c2 => ?_)
    · rw [if_pos c2] at h
      exact hB22 h _ _ _ hP (lv_sub hl [] rfl)
    · rw [if_neg c2] at h
      refine lv_aload_n hx hb dX2_at_13 rfl (lv_at hl 0 rfl) ?_
      refine vt_getR (r := 5) S hF hP (k := 0) (ci := 2) 4 (hlt _ (by decide)) rfl (by decide) rfl (by decide) rfl rfl (inC_X2 _) (List.mem_cons_of_mem _ fl_X2_11) dX2_at_14 ?_
      refine lv_iload_n hx hb dX2_at_17 rfl (lv_at hl 1 rfl) ?_
      obtain ⟨c3, h⟩ := chk h
      refine vt_aald S hF hP (hlt _ (by decide)) rfl c3 dX2_at_18 ?_
      refine lv_goto (tgt := 23) hx hb dX2_at_19 (by decide) ?_
      obtain rfl := Option.some.inj h
      exact ve_r S hF hP hr hk dX2_at_23
set_option maxRecDepth 100000 in
set_option maxHeartbeats 4000000 in
theorem c_X0_copy (l : Launch) (P : Pl) (hA : Adr P) (hn : 26 ≤ P.2.2.2.1) (h0 : Nat) (h1 : Nat) (hs0 : (shp h0).1 = 0) (hb0 : h0 < 26) (hs1 : (shp h1).1 = 0) (hb1 : h1 < 26) (w : Wo) {r : Wo} (h : F_X0_copy h0 h1 w = some r) : CtV l P yX0_copy cX0_copy 2 none 0 [.ref (P.2.1 h0), .ref (P.2.1 h1)] w r := by
  have hlt : ∀ h, h < 26 → h < P.2.2.2.1 := fun h q => Nat.lt_of_lt_of_le q hn
  refine vs_met hA (by decide +kernel) (Nat.le_of_ble_eq_true rfl) (fun p e s m args below meth c ls S hF hP hl hr hk => ?_)
  have hx := S.1
  have hb := S.2.1
  replace hl : lv_has ls 2 [(0, .ref (P.2.1 h0)), (1, .ref (P.2.1 h1))] := hl
  have hB80 : ∀ (w : Wo), B_X0_copy_80 h0 h1 w = some r → ∀ (H : Heap) (locs : List Loc) (ls : Array Slot), St P s w H locs → lv_has ls 2 [(0, .ref (P.2.1 h0)), (1, .ref (P.2.1 h1))] → W p l e (rmU 0 0 0) s m args below meth c H locs 0 0 (QV P r below args s) (F0 m 80 ls []) := by
    intro w h H locs ls hP hl
    unfold B_X0_copy_80 at h
    refine lv_aload_n hx hb dX0_copy_80 rfl (lv_at hl 0 rfl) ?_
    refine lv_aload_n hx hb dX0_copy_81 rfl (lv_at hl 1 rfl) ?_
    refine vt_getI S hF hP (k := 10) (ci := 0) h1 (hlt _ hb1) hs1 (by decide) rfl (by decide) rfl (inC_X0 _) (List.mem_cons_of_mem _ fl_X0_43) dX0_copy_82 ?_
    refine vt_putI S hF hP (k := 10) (ci := 0) h0 (hlt _ hb0) hs0 (by decide) rfl (by decide) rfl tyX0 tyX0_ok nmX0 rfl rfl rfl rfl (by decide) (inC_X0 _) (List.mem_cons_of_mem _ fl_X0_43) dX0_copy_85 (fun H locs hP => ?_)
    obtain rfl := Option.some.inj h
    exact ve_v S hF hP hr hk dX0_copy_88
  have hB72 : ∀ (w : Wo), B_X0_copy_72 h0 h1 w = some r → ∀ (H : Heap) (locs : List Loc) (ls : Array Slot), St P s w H locs → lv_has ls 2 [(0, .ref (P.2.1 h0)), (1, .ref (P.2.1 h1))] → W p l e (rmU 0 0 0) s m args below meth c H locs 0 0 (QV P r below args s) (F0 m 72 ls []) := by
    intro w h H locs ls hP hl
    unfold B_X0_copy_72 at h
    refine lv_aload_n hx hb dX0_copy_72 rfl (lv_at hl 0 rfl) ?_
    refine lv_aload_n hx hb dX0_copy_73 rfl (lv_at hl 1 rfl) ?_
    refine vt_getI S hF hP (k := 9) (ci := 0) h1 (hlt _ hb1) hs1 (by decide) rfl (by decide) rfl (inC_X0 _) (List.mem_cons_of_mem _ fl_X0_40) dX0_copy_74 ?_
    refine vt_putI S hF hP (k := 9) (ci := 0) h0 (hlt _ hb0) hs0 (by decide) rfl (by decide) rfl tyX0 tyX0_ok nmX0 rfl rfl rfl rfl (by decide) (inC_X0 _) (List.mem_cons_of_mem _ fl_X0_40) dX0_copy_77 (fun H locs hP => ?_)
    exact hB80 _ h _ _ _ hP (lv_sub hl [0, 1] rfl)
  have hB64 : ∀ (w : Wo), B_X0_copy_64 h0 h1 w = some r → ∀ (H : Heap) (locs : List Loc) (ls : Array Slot), St P s w H locs → lv_has ls 2 [(0, .ref (P.2.1 h0)), (1, .ref (P.2.1 h1))] → W p l e (rmU 0 0 0) s m args below meth c H locs 0 0 (QV P r below args s) (F0 m 64 ls []) := by
    intro w h H locs ls hP hl
    unfold B_X0_copy_64 at h
    refine lv_aload_n hx hb dX0_copy_64 rfl (lv_at hl 0 rfl) ?_
    refine lv_aload_n hx hb dX0_copy_65 rfl (lv_at hl 1 rfl) ?_
    refine vt_getI S hF hP (k := 8) (ci := 0) h1 (hlt _ hb1) hs1 (by decide) rfl (by decide) rfl (inC_X0 _) (List.mem_cons_of_mem _ fl_X0_37) dX0_copy_66 ?_
    refine vt_putI S hF hP (k := 8) (ci := 0) h0 (hlt _ hb0) hs0 (by decide) rfl (by decide) rfl tyX0 tyX0_ok nmX0 rfl rfl rfl rfl (by decide) (inC_X0 _) (List.mem_cons_of_mem _ fl_X0_37) dX0_copy_69 (fun H locs hP => ?_)
    exact hB72 _ h _ _ _ hP (lv_sub hl [0, 1] rfl)
  have hB56 : ∀ (w : Wo), B_X0_copy_56 h0 h1 w = some r → ∀ (H : Heap) (locs : List Loc) (ls : Array Slot), St P s w H locs → lv_has ls 2 [(0, .ref (P.2.1 h0)), (1, .ref (P.2.1 h1))] → W p l e (rmU 0 0 0) s m args below meth c H locs 0 0 (QV P r below args s) (F0 m 56 ls []) := by
    intro w h H locs ls hP hl
    unfold B_X0_copy_56 at h
    refine lv_aload_n hx hb dX0_copy_56 rfl (lv_at hl 0 rfl) ?_
    refine lv_aload_n hx hb dX0_copy_57 rfl (lv_at hl 1 rfl) ?_
    refine vt_getI S hF hP (k := 7) (ci := 0) h1 (hlt _ hb1) hs1 (by decide) rfl (by decide) rfl (inC_X0 _) (List.mem_cons_of_mem _ fl_X0_34) dX0_copy_58 ?_
    refine vt_putI S hF hP (k := 7) (ci := 0) h0 (hlt _ hb0) hs0 (by decide) rfl (by decide) rfl tyX0 tyX0_ok nmX0 rfl rfl rfl rfl (by decide) (inC_X0 _) (List.mem_cons_of_mem _ fl_X0_34) dX0_copy_61 (fun H locs hP => ?_)
    exact hB64 _ h _ _ _ hP (lv_sub hl [0, 1] rfl)
  have hB48 : ∀ (w : Wo), B_X0_copy_48 h0 h1 w = some r → ∀ (H : Heap) (locs : List Loc) (ls : Array Slot), St P s w H locs → lv_has ls 2 [(0, .ref (P.2.1 h0)), (1, .ref (P.2.1 h1))] → W p l e (rmU 0 0 0) s m args below meth c H locs 0 0 (QV P r below args s) (F0 m 48 ls []) := by
    intro w h H locs ls hP hl
    unfold B_X0_copy_48 at h
    refine lv_aload_n hx hb dX0_copy_48 rfl (lv_at hl 0 rfl) ?_
    refine lv_aload_n hx hb dX0_copy_49 rfl (lv_at hl 1 rfl) ?_
    refine vt_getI S hF hP (k := 6) (ci := 0) h1 (hlt _ hb1) hs1 (by decide) rfl (by decide) rfl (inC_X0 _) (List.mem_cons_of_mem _ fl_X0_31) dX0_copy_50 ?_
    refine vt_putI S hF hP (k := 6) (ci := 0) h0 (hlt _ hb0) hs0 (by decide) rfl (by decide) rfl tyX0 tyX0_ok nmX0 rfl rfl rfl rfl (by decide) (inC_X0 _) (List.mem_cons_of_mem _ fl_X0_31) dX0_copy_53 (fun H locs hP => ?_)
    exact hB56 _ h _ _ _ hP (lv_sub hl [0, 1] rfl)
  have hB40 : ∀ (w : Wo), B_X0_copy_40 h0 h1 w = some r → ∀ (H : Heap) (locs : List Loc) (ls : Array Slot), St P s w H locs → lv_has ls 2 [(0, .ref (P.2.1 h0)), (1, .ref (P.2.1 h1))] → W p l e (rmU 0 0 0) s m args below meth c H locs 0 0 (QV P r below args s) (F0 m 40 ls []) := by
    intro w h H locs ls hP hl
    unfold B_X0_copy_40 at h
    refine lv_aload_n hx hb dX0_copy_40 rfl (lv_at hl 0 rfl) ?_
    refine lv_aload_n hx hb dX0_copy_41 rfl (lv_at hl 1 rfl) ?_
    refine vt_getI S hF hP (k := 5) (ci := 0) h1 (hlt _ hb1) hs1 (by decide) rfl (by decide) rfl (inC_X0 _) (List.mem_cons_of_mem _ fl_X0_28) dX0_copy_42 ?_
    refine vt_putI S hF hP (k := 5) (ci := 0) h0 (hlt _ hb0) hs0 (by decide) rfl (by decide) rfl tyX0 tyX0_ok nmX0 rfl rfl rfl rfl (by decide) (inC_X0 _) (List.mem_cons_of_mem _ fl_X0_28) dX0_copy_45 (fun H locs hP => ?_)
    exact hB48 _ h _ _ _ hP (lv_sub hl [0, 1] rfl)
  have hB32 : ∀ (w : Wo), B_X0_copy_32 h0 h1 w = some r → ∀ (H : Heap) (locs : List Loc) (ls : Array Slot), St P s w H locs → lv_has ls 2 [(0, .ref (P.2.1 h0)), (1, .ref (P.2.1 h1))] → W p l e (rmU 0 0 0) s m args below meth c H locs 0 0 (QV P r below args s) (F0 m 32 ls []) := by
    intro w h H locs ls hP hl
    unfold B_X0_copy_32 at h
    refine lv_aload_n hx hb dX0_copy_32 rfl (lv_at hl 0 rfl) ?_
    refine lv_aload_n hx hb dX0_copy_33 rfl (lv_at hl 1 rfl) ?_
    refine vt_getI S hF hP (k := 4) (ci := 0) h1 (hlt _ hb1) hs1 (by decide) rfl (by decide) rfl (inC_X0 _) (List.mem_cons_of_mem _ fl_X0_25) dX0_copy_34 ?_
    refine vt_putI S hF hP (k := 4) (ci := 0) h0 (hlt _ hb0) hs0 (by decide) rfl (by decide) rfl tyX0 tyX0_ok nmX0 rfl rfl rfl rfl (by decide) (inC_X0 _) (List.mem_cons_of_mem _ fl_X0_25) dX0_copy_37 (fun H locs hP => ?_)
    exact hB40 _ h _ _ _ hP (lv_sub hl [0, 1] rfl)
  have hB24 : ∀ (w : Wo), B_X0_copy_24 h0 h1 w = some r → ∀ (H : Heap) (locs : List Loc) (ls : Array Slot), St P s w H locs → lv_has ls 2 [(0, .ref (P.2.1 h0)), (1, .ref (P.2.1 h1))] → W p l e (rmU 0 0 0) s m args below meth c H locs 0 0 (QV P r below args s) (F0 m 24 ls []) := by
    intro w h H locs ls hP hl
    unfold B_X0_copy_24 at h
    refine lv_aload_n hx hb dX0_copy_24 rfl (lv_at hl 0 rfl) ?_
    refine lv_aload_n hx hb dX0_copy_25 rfl (lv_at hl 1 rfl) ?_
    refine vt_getL S hF hP (k := 3) (ci := 0) h1 (hlt _ hb1) hs1 (by decide) rfl (by decide) rfl (inC_X0 _) (List.mem_cons_of_mem _ fl_X0_22) dX0_copy_26 ?_
    refine vt_putL S hF hP (k := 3) (ci := 0) h0 (hlt _ hb0) hs0 (by decide) rfl (by decide) rfl tyX0 tyX0_ok nmX0 rfl rfl (by decide) (inC_X0 _) (List.mem_cons_of_mem _ fl_X0_22) dX0_copy_29 (fun H locs hP => ?_)
    exact hB32 _ h _ _ _ hP (lv_sub hl [0, 1] rfl)
  have hB16 : ∀ (w : Wo), B_X0_copy_16 h0 h1 w = some r → ∀ (H : Heap) (locs : List Loc) (ls : Array Slot), St P s w H locs → lv_has ls 2 [(0, .ref (P.2.1 h0)), (1, .ref (P.2.1 h1))] → W p l e (rmU 0 0 0) s m args below meth c H locs 0 0 (QV P r below args s) (F0 m 16 ls []) := by
    intro w h H locs ls hP hl
    unfold B_X0_copy_16 at h
    refine lv_aload_n hx hb dX0_copy_16 rfl (lv_at hl 0 rfl) ?_
    refine lv_aload_n hx hb dX0_copy_17 rfl (lv_at hl 1 rfl) ?_
    refine vt_getL S hF hP (k := 2) (ci := 0) h1 (hlt _ hb1) hs1 (by decide) rfl (by decide) rfl (inC_X0 _) (List.mem_cons_of_mem _ fl_X0_18) dX0_copy_18 ?_
    refine vt_putL S hF hP (k := 2) (ci := 0) h0 (hlt _ hb0) hs0 (by decide) rfl (by decide) rfl tyX0 tyX0_ok nmX0 rfl rfl (by decide) (inC_X0 _) (List.mem_cons_of_mem _ fl_X0_18) dX0_copy_21 (fun H locs hP => ?_)
    exact hB24 _ h _ _ _ hP (lv_sub hl [0, 1] rfl)
  have hB8 : ∀ (w : Wo), B_X0_copy_8 h0 h1 w = some r → ∀ (H : Heap) (locs : List Loc) (ls : Array Slot), St P s w H locs → lv_has ls 2 [(0, .ref (P.2.1 h0)), (1, .ref (P.2.1 h1))] → W p l e (rmU 0 0 0) s m args below meth c H locs 0 0 (QV P r below args s) (F0 m 8 ls []) := by
    intro w h H locs ls hP hl
    unfold B_X0_copy_8 at h
    refine lv_aload_n hx hb dX0_copy_8 rfl (lv_at hl 0 rfl) ?_
    refine lv_aload_n hx hb dX0_copy_9 rfl (lv_at hl 1 rfl) ?_
    refine vt_getI S hF hP (k := 1) (ci := 0) h1 (hlt _ hb1) hs1 (by decide) rfl (by decide) rfl (inC_X0 _) (List.mem_cons_of_mem _ fl_X0_15) dX0_copy_10 ?_
    refine vt_putI S hF hP (k := 1) (ci := 0) h0 (hlt _ hb0) hs0 (by decide) rfl (by decide) rfl tyX0 tyX0_ok nmX0 rfl rfl rfl rfl (by decide) (inC_X0 _) (List.mem_cons_of_mem _ fl_X0_15) dX0_copy_13 (fun H locs hP => ?_)
    exact hB16 _ h _ _ _ hP (lv_sub hl [0, 1] rfl)
  unfold F_X0_copy at h
  refine lv_aload_n hx hb dX0_copy_0 rfl (lv_at hl 0 rfl) ?_
  refine lv_aload_n hx hb dX0_copy_1 rfl (lv_at hl 1 rfl) ?_
  refine vt_getI S hF hP (k := 0) (ci := 0) h1 (hlt _ hb1) hs1 (by decide) rfl (by decide) rfl (inC_X0 _) (List.mem_cons_of_mem _ fl_X0_9) dX0_copy_2 ?_
  refine vt_putI S hF hP (k := 0) (ci := 0) h0 (hlt _ hb0) hs0 (by decide) rfl (by decide) rfl tyX0 tyX0_ok nmX0 rfl rfl rfl rfl (by decide) (inC_X0 _) (List.mem_cons_of_mem _ fl_X0_9) dX0_copy_5 (fun H locs hP => ?_)
  exact hB8 _ h _ _ _ hP (lv_sub hl [0, 1] rfl)
set_option maxRecDepth 100000 in
set_option maxHeartbeats 4000000 in
theorem c_X2_copyBoard (l : Launch) (P : Pl) (hA : Adr P) (hn : 26 ≤ P.2.2.2.1) (h0 : Nat) (h1 : Nat) (hs0 : (shp h0).1 = 0) (hb0 : h0 < 26) (hs1 : (shp h1).1 = 0) (hb1 : h1 < 26) (w : Wo) {r : Wo} (h : F_X2_copyBoard h0 h1 w = some r) : CtV l P yX2_copyBoard cX2_copyBoard 2 none 1 [.ref (P.2.1 h0), .ref (P.2.1 h1)] w r := by
  have hlt : ∀ h, h < 26 → h < P.2.2.2.1 := fun h q => Nat.lt_of_lt_of_le q hn
  refine vs_met hA (by decide +kernel) (Nat.le_of_ble_eq_true rfl) (fun p e s m args below meth c ls S hF hP hl hr hk => ?_)
  have hx := S.1
  have hb := S.2.1
  replace hl : lv_has ls 2 [(0, .ref (P.2.1 h0)), (1, .ref (P.2.1 h1))] := hl
  unfold F_X2_copyBoard at h
  refine lv_aload_n hx hb dX2_copyBoard_0 rfl (lv_at hl 0 rfl) ?_
  refine lv_ifnull hx hb dX2_copyBoard_1 ?_
  refine lv_aload_n hx hb dX2_copyBoard_4 rfl (lv_at hl 1 rfl) ?_
  refine lv_ifnull hx hb dX2_copyBoard_5 ?_
  refine lv_aload_n hx hb dX2_copyBoard_8 rfl (lv_at hl 1 rfl) ?_
  refine lv_aload_n hx hb dX2_copyBoard_9 rfl (lv_at hl 0 rfl) ?_
  obtain ⟨q1, hq1, h⟩ := ob h
  refine vu_v hP (vu_V S hF hP (h := h1) (hlt _ hb1) hs1 (by decide) rfl (c_X0_copy l P hA hn h1 h0 hs1 (hb1) hs0 (hb0) w hq1) ok_X0_copy ml_X2_42 ⟨Nat.le_of_ble_eq_true rfl, Nat.le_of_ble_eq_true rfl⟩ rfl hl.1 rfl (Nat.le_of_ble_eq_true rfl) dX2_copyBoard_10 ⟨Nat.le_of_ble_eq_true rfl, Nat.le_of_ble_eq_true rfl⟩) (fun H locs hP => ?_)
  obtain rfl := Option.some.inj h
  exact ve_v S hF hP hr hk dX2_copyBoard_13
set_option maxRecDepth 100000 in
set_option maxHeartbeats 4000000 in
theorem c_X2_keep (l : Launch) (P : Pl) (hA : Adr P) (hn : 26 ≤ P.2.2.2.1) (h1 : Nat) (hs1 : (shp h1).1 = 0) (hb1 : h1 < 26) (w : Wo) {r : Wo} (h : F_X2_keep h1 w = some r) : CtV l P yX2_keep cX2_keep 2 none 2 [.ref (P.2.1 4), .ref (P.2.1 h1)] w r := by
  have hlt : ∀ h, h < 26 → h < P.2.2.2.1 := fun h q => Nat.lt_of_lt_of_le q hn
  refine vs_met hA (by decide +kernel) (Nat.le_of_ble_eq_true rfl) (fun p e s m args below meth c ls S hF hP hl hr hk => ?_)
  have hx := S.1
  have hb := S.2.1
  replace hl : lv_has ls 2 [(0, .ref (P.2.1 4)), (1, .ref (P.2.1 h1))] := hl
  have hB37 : ∀ (w : Wo), B_X2_keep_37 h1 w = some r → ∀ (H : Heap) (locs : List Loc) (ls : Array Slot), St P s w H locs → lv_has ls 2 [(0, .ref (P.2.1 4))] → W p l e (rmU 2 0 0) s m args below meth c H locs 0 0 (QV P r below args s) (F0 m 37 ls []) := by
    intro w h H locs ls hP hl
    unfold B_X2_keep_37 at h
    refine lv_aload_n hx hb dX2_keep_37 rfl (lv_at hl 0 rfl) ?_
    refine lv_aload_n hx hb dX2_keep_38 rfl (lv_at hl 0 rfl) ?_
    refine vt_getI S hF hP (k := 2) (ci := 2) 4 (hlt _ (by decide)) rfl (by decide) rfl (by decide) rfl (inC_X2 _) (List.mem_cons_of_mem _ fl_X2_21) dX2_keep_39 ?_
    refine lv_iconst (v := 1) hx hb dX2_keep_42 (by decide) ?_
    refine lv_iadd hx hb dX2_keep_43 ?_
    refine lv_bipush (v := 8) hx hb dX2_keep_44 (by decide) ?_
    refine va_mmin hx hb (S.2.2.1.trans hl.1.symm) S.2.2.2.1 (S.2.2.2.2 _ (List.mem_cons_of_mem _ lib_X2_33.1)) (S.2.2.2.2 _ (List.mem_cons_of_mem _ lib_X2_33.2.1)) (S.2.2.2.2 _ (List.mem_cons_of_mem _ lib_X2_33.2.2.1)) (S.2.2.2.2 _ (List.mem_cons_of_mem _ lib_X2_33.2.2.2)) (by decide) (Nat.le_of_ble_eq_true rfl) (Nat.zero_le _) (Nat.zero_le _) dX2_keep_46 ?_
    refine vt_putI S hF hP (k := 2) (ci := 2) 4 (hlt _ (by decide)) rfl (by decide) rfl (by decide) rfl tyX2 tyX2_ok nmX2 rfl rfl rfl rfl (by decide) (inC_X2 _) (List.mem_cons_of_mem _ fl_X2_21) dX2_keep_49 (fun H locs hP => ?_)
    obtain rfl := Option.some.inj h
    exact ve_v S hF hP hr hk dX2_keep_52
  have hB34 : ∀ (w : Wo) (t0 : Int32), B_X2_keep_34 h1 w t0 = some r → ∀ (H : Heap) (locs : List Loc) (ls : Array Slot), St P s w H locs → lv_has ls 2 [(0, .ref (P.2.1 4))] → W p l e (rmU 2 0 0) s m args below meth c H locs 0 0 (QV P r below args s) (F0 m 34 ls [.int t0, .ref (P.2.1 4)]) := by
    intro w t0 h H locs ls hP hl
    unfold B_X2_keep_34 at h
    refine vt_putI S hF hP (k := 1) (ci := 2) 4 (hlt _ (by decide)) rfl (by decide) rfl (by decide) rfl tyX2 tyX2_ok nmX2 rfl rfl rfl rfl (by decide) (inC_X2 _) (List.mem_cons_of_mem _ fl_X2_17) dX2_keep_34 (fun H locs hP => ?_)
    exact hB37 _ h _ _ _ hP (lv_sub hl [0] rfl)
  unfold F_X2_keep at h
  refine lv_aload_n hx hb dX2_keep_0 rfl (lv_at hl 1 rfl) ?_
  refine lv_aload_n hx hb dX2_keep_1 rfl (lv_at hl 0 rfl) ?_
  refine lv_aload_n hx hb dX2_keep_2 rfl (lv_at hl 0 rfl) ?_
  refine vt_getI S hF hP (k := 1) (ci := 2) 4 (hlt _ (by decide)) rfl (by decide) rfl (by decide) rfl (inC_X2 _) (List.mem_cons_of_mem _ fl_X2_17) dX2_keep_3 ?_
  obtain ⟨q1, hq1, h⟩ := ob h
  refine vu_r hP (vu_V S hF hP (h := 4) (hlt _ (by decide)) rfl (by decide) rfl (c_X2_at l P hA hn w (gI w 4 1) hq1) ok_X2_at ml_X2_25 ⟨Nat.le_of_ble_eq_true rfl, Nat.le_of_ble_eq_true rfl⟩ rfl hl.1 rfl (Nat.le_of_ble_eq_true rfl) dX2_keep_6 ⟨Nat.le_of_ble_eq_true rfl, Nat.le_of_ble_eq_true rfl⟩) (fun H locs hP => ?_)
  obtain ⟨cr2, h⟩ := chk h
  obtain ⟨q3, hq3, h⟩ := ob h
  refine vu_v hP (vu_S S hF hP (c_X2_copyBoard l P hA hn h1 q1 hs1 (hb1) cr2.1 (cr2.2) w hq3) ok_X2_copyBoard ml_X2_29 ⟨Nat.le_of_ble_eq_true rfl, Nat.le_of_ble_eq_true rfl⟩ rfl hl.1 rfl (Nat.le_of_ble_eq_true rfl) dX2_keep_9 ⟨Nat.le_of_ble_eq_true rfl, Nat.le_of_ble_eq_true rfl⟩) (fun H locs hP => ?_)
  refine lv_aload_n hx hb dX2_keep_12 rfl (lv_at hl 0 rfl) ?_
  refine lv_aload_n hx hb dX2_keep_13 rfl (lv_at hl 0 rfl) ?_
  refine vt_getI S hF hP (k := 1) (ci := 2) 4 (hlt _ (by decide)) rfl (by decide) rfl (by decide) rfl (inC_X2 _) (List.mem_cons_of_mem _ fl_X2_17) dX2_keep_14 ?_
  refine lv_iconst (v := 1) hx hb dX2_keep_17 (by decide) ?_
  refine lv_iadd hx hb dX2_keep_18 ?_
  refine lv_bipush (v := 8) hx hb dX2_keep_19 (by decide) ?_
  refine lv_icmp_lt (tgt := 28) hx hb dX2_keep_21 (by decide) (fun c4 => ?_) (fun c4 => ?_)
  · rw [if_pos c4] at h
    refine lv_aload_n hx hb dX2_keep_28 rfl (lv_at hl 0 rfl) ?_
    refine vt_getI S hF hP (k := 1) (ci := 2) 4 (hlt _ (by decide)) rfl (by decide) rfl (by decide) rfl (inC_X2 _) (List.mem_cons_of_mem _ fl_X2_17) dX2_keep_29 ?_
    refine lv_iconst (v := 1) hx hb dX2_keep_32 (by decide) ?_
    refine lv_iadd hx hb dX2_keep_33 ?_
    exact hB34 _ _ h _ _ _ hP (lv_sub hl [0] rfl)
  · rw [if_neg c4] at h
    refine lv_iconst (v := 0) hx hb dX2_keep_24 (by decide) ?_
    refine lv_goto (tgt := 34) hx hb dX2_keep_25 (by decide) ?_
    exact hB34 _ _ h _ _ _ hP (lv_sub hl [0] rfl)
set_option maxRecDepth 100000 in
set_option maxHeartbeats 4000000 in
theorem c_X0_isGoal (l : Launch) (P : Pl) (hA : Adr P) (hn : 26 ≤ P.2.2.2.1) (w : Wo) (x1 : Int64) {r : Int32} (h : F_X0_isGoal w x1 = some r) : CtI l P yX0_isGoal cX0_isGoal 5 (some .boolean) 1 [.ref (P.2.1 1), .long x1] w r w := by
  have hlt : ∀ h, h < 26 → h < P.2.2.2.1 := fun h q => Nat.lt_of_lt_of_le q hn
  refine vs_met hA (by decide +kernel) (Nat.le_of_ble_eq_true rfl) (fun p e s m args below meth c ls S hF hP hl hr hk => ?_)
  have hx := S.1
  have hb := S.2.1
  replace hl : lv_has ls 5 [(0, .ref (P.2.1 1)), (1, .long x1)] := hl
  have hL2 : ∀ (x1 : Int64) (n : Nat) (x3 : Int32), jl1 (B_X0_isGoal_2 w x1) n x3 = some r → ∀ (H : Heap) (locs : List Loc) (ls : Array Slot), St P s w H locs → lv_has ls 5 [(0, .ref (P.2.1 1)), (1, .long x1), (3, .int x3)] → W p l e (rmU 1 0 0) s m args below meth c H locs 0 0 (QI P (some .boolean) r w below args s) (F0 m 2 ls []) := by
    intro x1
    intro n
    induction n with
    | zero =>
      intro x3 h
      cases h
    | succ n ih2 =>
      intro x3 h H locs ls hP hl
      replace h : B_X0_isGoal_2 w x1 (jl1 (B_X0_isGoal_2 w x1) n) x3 = some r := h
      revert h ih2
      generalize jl1 (B_X0_isGoal_2 w x1) n = k2
      intro ih2 h
      have hB39 : ∀ (x3 : Int32), B_X0_isGoal_39 k2 w x1 x3 = some r → ∀ (H : Heap) (locs : List Loc) (ls : Array Slot), St P s w H locs → lv_has ls 5 [(0, .ref (P.2.1 1)), (1, .long x1), (3, .int x3)] → W p l e (rmU 1 0 0) s m args below meth c H locs 0 0 (QI P (some .boolean) r w below args s) (F0 m 39 ls []) := by
        intro x3 h H locs ls hP hl
        unfold B_X0_isGoal_39 at h
        refine lv_iinc (v := (x3 + 1)) (lv' := [(3, .int (x3 + 1)), (0, .ref (P.2.1 1)), (1, .long x1)]) hx hb dX0_isGoal_39 hl (k := 2) rfl rfl (by decide) rfl (fun ls hl => ?_)
        refine lv_goto (tgt := 2) hx hb dX0_isGoal_42 (by decide) ?_
        exact ih2 _ h _ _ _ hP (lv_sub hl [1, 2, 0] rfl)
      unfold B_X0_isGoal_2 at h
      refine lv_iload_n hx hb dX0_isGoal_2 rfl (lv_at hl 2 rfl) ?_
      refine lv_aload_n hx hb dX0_isGoal_3 rfl (lv_at hl 0 rfl) ?_
      refine vu_i hP (vu_V S hF hP (h := 1) (hlt _ (by decide)) rfl (by decide) rfl (c_X0_places l P hA hn w) ok_X0_places ml_X0_46 ⟨Nat.le_of_ble_eq_true rfl, Nat.le_of_ble_eq_true rfl⟩ rfl hl.1 rfl (Nat.le_of_ble_eq_true rfl) dX0_isGoal_4 ⟨Nat.le_of_ble_eq_true rfl, Nat.le_of_ble_eq_true rfl⟩) (fun H locs ho1 hP => ?_)
      refine lv_icmp_ge (tgt := 45) hx hb dX0_isGoal_7 (by decide) (fun c4 => ?_) (fun c4 => ?_)
      · rw [if_pos c4] at h
        refine lv_iconst (v := 1) hx hb dX0_isGoal_45 (by decide) ?_
        obtain rfl := Option.some.inj h
        exact ve_i (v := 1) S hF hP hr hk rfl dX0_isGoal_46
      · rw [if_neg c4] at h
        refine lv_aload_n hx hb dX0_isGoal_10 rfl (lv_at hl 0 rfl) ?_
        refine vt_getL S hF hP (k := 3) (ci := 0) 1 (hlt _ (by decide)) rfl (by decide) rfl (by decide) rfl (inC_X0 _) (List.mem_cons_of_mem _ fl_X0_22) dX0_isGoal_11 ?_
        refine lv_iload_n hx hb dX0_isGoal_14 rfl (lv_at hl 2 rfl) ?_
        refine vu_i hP (vu_SN S hF hP (host := RX5) (c_X5_codeAt l P hA hn w (gL w 1 3) x3) ok_X5_codeAt (by decide +kernel) ⟨Nat.le_of_ble_eq_true rfl, Nat.le_of_ble_eq_true rfl⟩ rfl hl.1 rfl (Nat.le_of_ble_eq_true rfl) dX0_isGoal_15 ⟨Nat.le_of_ble_eq_true rfl, Nat.le_of_ble_eq_true rfl⟩) (fun H locs ho2 hP => ?_)
        refine lv_istore (lv' := [(4, .int (F_X5_codeAt (gL w 1 3) x3)), (0, .ref (P.2.1 1)), (1, .long x1), (3, .int x3)]) hx hb dX0_isGoal_18 hl (by decide) rfl (fun ls hl => ?_)
        refine lv_iload hx hb dX0_isGoal_20 (lv_at hl 0 rfl) ?_
        refine lv_bipush (v := 12) hx hb dX0_isGoal_22 (by decide) ?_
        refine lv_icmp_eq (tgt := 39) hx hb dX0_isGoal_24 (by decide) (fun c5 => ?_) (fun c5 => ?_)
        · rw [if_pos c5] at h
          exact hB39 _ h _ _ _ hP (lv_sub hl [1, 2, 3] rfl)
        · rw [if_neg c5] at h
          refine lv_iload hx hb dX0_isGoal_27 (lv_at hl 0 rfl) ?_
          refine lv_lload_n hx hb dX0_isGoal_29 rfl (lv_at hl 2 rfl) ?_
          refine lv_iload_n hx hb dX0_isGoal_30 rfl (lv_at hl 3 rfl) ?_
          refine vu_i hP (vu_SN S hF hP (host := RX5) (c_X5_codeAt l P hA hn w x1 x3) ok_X5_codeAt (by decide +kernel) ⟨Nat.le_of_ble_eq_true rfl, Nat.le_of_ble_eq_true rfl⟩ rfl hl.1 rfl (Nat.le_of_ble_eq_true rfl) dX0_isGoal_31 ⟨Nat.le_of_ble_eq_true rfl, Nat.le_of_ble_eq_true rfl⟩) (fun H locs ho3 hP => ?_)
          refine lv_icmp_eq (tgt := 39) hx hb dX0_isGoal_34 (by decide) (fun c6 => ?_) (fun c6 => ?_)
          · rw [if_pos c6] at h
            exact hB39 _ h _ _ _ hP (lv_sub hl [1, 2, 3] rfl)
          · rw [if_neg c6] at h
            refine lv_iconst (v := 0) hx hb dX0_isGoal_37 (by decide) ?_
            obtain rfl := Option.some.inj h
            exact ve_i (v := 0) S hF hP hr hk rfl dX0_isGoal_38
  unfold F_X0_isGoal at h
  refine lv_iconst (v := 0) hx hb dX0_isGoal_0 (by decide) ?_
  refine lv_istore_n (lv' := [(3, .int 0), (0, .ref (P.2.1 1)), (1, .long x1)]) hx hb dX0_isGoal_1 rfl hl (by decide) rfl (fun ls hl => ?_)
  exact hL2 _ fu _ h _ _ _ hP (lv_sub hl [1, 2, 0] rfl)
set_option maxRecDepth 100000 in
set_option maxHeartbeats 4000000 in
theorem c_X0_isReached (l : Launch) (P : Pl) (hA : Adr P) (hn : 26 ≤ P.2.2.2.1) (w : Wo) {r : Int32} (h : F_X0_isReached w = some r) : CtI l P yX0_isReached cX0_isReached 1 (some .boolean) 2 [.ref (P.2.1 1)] w r w := by
  have hlt : ∀ h, h < 26 → h < P.2.2.2.1 := fun h q => Nat.lt_of_lt_of_le q hn
  refine vs_met hA (by decide +kernel) (Nat.le_of_ble_eq_true rfl) (fun p e s m args below meth c ls S hF hP hl hr hk => ?_)
  have hx := S.1
  have hb := S.2.1
  replace hl : lv_has ls 1 [(0, .ref (P.2.1 1))] := hl
  unfold F_X0_isReached at h
  refine lv_aload_n hx hb dX0_isReached_0 rfl (lv_at hl 0 rfl) ?_
  refine lv_aload_n hx hb dX0_isReached_1 rfl (lv_at hl 0 rfl) ?_
  refine vt_getL S hF hP (k := 2) (ci := 0) 1 (hlt _ (by decide)) rfl (by decide) rfl (by decide) rfl (inC_X0 _) (List.mem_cons_of_mem _ fl_X0_18) dX0_isReached_2 ?_
  obtain ⟨q1, hq1, h⟩ := ob h
  refine vu_i hP (vu_V S hF hP (h := 1) (hlt _ (by decide)) rfl (by decide) rfl (c_X0_isGoal l P hA hn w (gL w 1 2) hq1) ok_X0_isGoal ml_X0_105 ⟨Nat.le_of_ble_eq_true rfl, Nat.le_of_ble_eq_true rfl⟩ rfl hl.1 rfl (Nat.le_of_ble_eq_true rfl) dX0_isReached_5 ⟨Nat.le_of_ble_eq_true rfl, Nat.le_of_ble_eq_true rfl⟩) (fun H locs ho2 hP => ?_)
  obtain rfl := Option.some.inj h
  exact ve_i (v := q1) S hF hP hr hk ho2 dX0_isReached_8
set_option maxRecDepth 100000 in
set_option maxHeartbeats 4000000 in
theorem c_X0_lineStart (l : Launch) (P : Pl) (hA : Adr P) (hn : 26 ≤ P.2.2.2.1) (w : Wo) (x1 : Int32) : CtI l P yX0_lineStart cX0_lineStart 2 (some .int) 0 [.ref (P.2.1 1), .int x1] w (F_X0_lineStart w x1) w := by
  have hlt : ∀ h, h < 26 → h < P.2.2.2.1 := fun h q => Nat.lt_of_lt_of_le q hn
  obtain ⟨r, h⟩ : ∃ r, F_X0_lineStart w x1 = r := ⟨_, rfl⟩
  rw [h]
  refine vs_met hA (by decide +kernel) (Nat.le_of_ble_eq_true rfl) (fun p e s m args below meth c ls S hF hP hl hr hk => ?_)
  have hx := S.1
  have hb := S.2.1
  replace hl : lv_has ls 2 [(0, .ref (P.2.1 1)), (1, .int x1)] := hl
  unfold F_X0_lineStart at h
  refine lv_iload_n hx hb dX0_lineStart_0 rfl (lv_at hl 1 rfl) ?_
  refine lv_aload_n hx hb dX0_lineStart_1 rfl (lv_at hl 0 rfl) ?_
  refine vt_getI S hF hP (k := 0) (ci := 0) 1 (hlt _ (by decide)) rfl (by decide) rfl (by decide) rfl (inC_X0 _) (List.mem_cons_of_mem _ fl_X0_9) dX0_lineStart_2 ?_
  refine lv_icmp_ge (tgt := 17) hx hb dX0_lineStart_5 (by decide) (fun c1 => ?_) (fun c1 => ?_)
  · rw [if_pos c1] at h
    refine lv_iload_n hx hb dX0_lineStart_17 rfl (lv_at hl 1 rfl) ?_
    refine lv_aload_n hx hb dX0_lineStart_18 rfl (lv_at hl 0 rfl) ?_
    refine vt_getI S hF hP (k := 0) (ci := 0) 1 (hlt _ (by decide)) rfl (by decide) rfl (by decide) rfl (inC_X0 _) (List.mem_cons_of_mem _ fl_X0_9) dX0_lineStart_19 ?_
    refine lv_isub hx hb dX0_lineStart_22 ?_
    subst h
    exact ve_i (v := (x1 - (gI w 1 0))) S hF hP hr hk rfl dX0_lineStart_23
  · rw [if_neg c1] at h
    refine lv_iload_n hx hb dX0_lineStart_8 rfl (lv_at hl 1 rfl) ?_
    refine lv_aload_n hx hb dX0_lineStart_9 rfl (lv_at hl 0 rfl) ?_
    refine vt_getI S hF hP (k := 1) (ci := 0) 1 (hlt _ (by decide)) rfl (by decide) rfl (by decide) rfl (inC_X0 _) (List.mem_cons_of_mem _ fl_X0_15) dX0_lineStart_10 ?_
    refine lv_imul hx hb dX0_lineStart_13 ?_
    refine lv_goto (tgt := 23) hx hb dX0_lineStart_14 (by decide) ?_
    subst h
    exact ve_i (v := (x1 * (gI w 1 1))) S hF hP hr hk rfl dX0_lineStart_23
set_option maxRecDepth 100000 in
set_option maxHeartbeats 4000000 in
theorem c_X0_lineStride (l : Launch) (P : Pl) (hA : Adr P) (hn : 26 ≤ P.2.2.2.1) (w : Wo) (x1 : Int32) : CtI l P yX0_lineStride cX0_lineStride 2 (some .int) 0 [.ref (P.2.1 1), .int x1] w (F_X0_lineStride w x1) w := by
  have hlt : ∀ h, h < 26 → h < P.2.2.2.1 := fun h q => Nat.lt_of_lt_of_le q hn
  obtain ⟨r, h⟩ : ∃ r, F_X0_lineStride w x1 = r := ⟨_, rfl⟩
  rw [h]
  refine vs_met hA (by decide +kernel) (Nat.le_of_ble_eq_true rfl) (fun p e s m args below meth c ls S hF hP hl hr hk => ?_)
  have hx := S.1
  have hb := S.2.1
  replace hl : lv_has ls 2 [(0, .ref (P.2.1 1)), (1, .int x1)] := hl
  unfold F_X0_lineStride at h
  refine lv_iload_n hx hb dX0_lineStride_0 rfl (lv_at hl 1 rfl) ?_
  refine lv_aload_n hx hb dX0_lineStride_1 rfl (lv_at hl 0 rfl) ?_
  refine vt_getI S hF hP (k := 0) (ci := 0) 1 (hlt _ (by decide)) rfl (by decide) rfl (by decide) rfl (inC_X0 _) (List.mem_cons_of_mem _ fl_X0_9) dX0_lineStride_2 ?_
  refine lv_icmp_ge (tgt := 12) hx hb dX0_lineStride_5 (by decide) (fun c1 => ?_) (fun c1 => ?_)
  · rw [if_pos c1] at h
    refine lv_aload_n hx hb dX0_lineStride_12 rfl (lv_at hl 0 rfl) ?_
    refine vt_getI S hF hP (k := 1) (ci := 0) 1 (hlt _ (by decide)) rfl (by decide) rfl (by decide) rfl (inC_X0 _) (List.mem_cons_of_mem _ fl_X0_15) dX0_lineStride_13 ?_
    subst h
    exact ve_i (v := (gI w 1 1)) S hF hP hr hk rfl dX0_lineStride_16
  · rw [if_neg c1] at h
    refine lv_iconst (v := 1) hx hb dX0_lineStride_8 (by decide) ?_
    refine lv_goto (tgt := 16) hx hb dX0_lineStride_9 (by decide) ?_
    subst h
    exact ve_i (v := 1) S hF hP hr hk rfl dX0_lineStride_16
