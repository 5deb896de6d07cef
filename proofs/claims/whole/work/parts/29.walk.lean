set_option maxRecDepth 100000 in
set_option maxHeartbeats 4000000 in
theorem c_X6_sings (l : Launch) (P : Pl) (hA : Adr P) (hn : 36 ≤ P.2.2.2.1) (w : Wo) (x1 : Int32) {r : Int32 × Wo} (h : F_X6_sings w x1 = some r) : CtI l P yX6_sings cX6_sings 2 (some .boolean) 4 [.ref (P.2.1 26), .int x1] w r.1 r.2 := by
  have hlt : ∀ h, h < 36 → h < P.2.2.2.1 := fun h q => Nat.lt_of_lt_of_le q hn
  refine vs_met hA (by decide +kernel) (Nat.le_of_ble_eq_true rfl) (fun p e s m args below meth c ls S hF hP hl hr hk => ?_)
  have hx := S.1
  have hb := S.2.1
  replace hl : lv_has ls 2 [(0, .ref (P.2.1 26)), (1, .int x1)] := hl
  have hB17 : ∀ (w : Wo) (x1 : Int32), B_X6_sings_17 w x1 = some r → ∀ (H : Heap) (locs : List Loc) (ls : Array Slot), St P s w H locs → lv_has ls 2 [(0, .ref (P.2.1 26)), (1, .int x1)] → W p l e (rmU 4 0 0) s m args below meth c H locs 0 0 (QI P (some .boolean) r.1 r.2 below args s) (F0 m 17 ls []) := by
    intro w x1 h H locs ls hP hl
    unfold B_X6_sings_17 at h
    refine lv_aload_n hx hb dX6_sings_17 rfl (lv_at hl 0 rfl) ?_
    refine vt_getI S hF hP (k := 14) (ci := 6) 26 (hlt _ (by decide)) rfl (by decide) rfl (by decide) rfl (inC_X6 _) (List.mem_cons_of_mem _ fl_X6_46) dX6_sings_18 ?_
    refine lv_if_ne (tgt := 36) hx hb dX6_sings_21 (by decide) (fun c5 => ?_) (fun c5 => ?_)
    · rw [if_neg c5] at h
      refine lv_iconst (v := 0) hx hb dX6_sings_36 (by decide) ?_
      obtain rfl := Option.some.inj h
      exact ve_i (v := 0) S hF hP hr hk rfl dX6_sings_37
    · rw [if_pos c5] at h
      refine lv_aload_n hx hb dX6_sings_24 rfl (lv_at hl 0 rfl) ?_
      refine lv_iload_n hx hb dX6_sings_25 rfl (lv_at hl 1 rfl) ?_
      obtain ⟨q3, hq3, h⟩ := ob h
      refine vu_i hP (vu_V S hF hP (h := 26) (hlt _ (by decide)) rfl (by decide) rfl (c_X6_isSinging l P hA hn w x1 hq3) ok_X6_isSinging ml_X6_220 ⟨Nat.le_of_ble_eq_true rfl, Nat.le_of_ble_eq_true rfl⟩ rfl hl.1 rfl (Nat.le_of_ble_eq_true rfl) dX6_sings_26 ⟨Nat.le_of_ble_eq_true rfl, Nat.le_of_ble_eq_true rfl⟩) (fun H locs ho4 hP => ?_)
      refine lv_if_eq (tgt := 36) hx hb dX6_sings_29 (by decide) (fun c6 => ?_) (fun c6 => ?_)
      · rw [if_pos c6] at h
        refine lv_iconst (v := 0) hx hb dX6_sings_36 (by decide) ?_
        obtain rfl := Option.some.inj h
        exact ve_i (v := 0) S hF hP hr hk rfl dX6_sings_37
      · rw [if_neg c6] at h
        refine lv_iconst (v := 1) hx hb dX6_sings_32 (by decide) ?_
        refine lv_goto (tgt := 37) hx hb dX6_sings_33 (by decide) ?_
        obtain rfl := Option.some.inj h
        exact ve_i (v := 1) S hF hP hr hk rfl dX6_sings_37
  have hB14 : ∀ (w : Wo) (x1 : Int32) (t0 : Int32), B_X6_sings_14 w x1 t0 = some r → ∀ (H : Heap) (locs : List Loc) (ls : Array Slot), St P s w H locs → lv_has ls 2 [(0, .ref (P.2.1 26)), (1, .int x1)] → W p l e (rmU 4 0 0) s m args below meth c H locs 0 0 (QI P (some .boolean) r.1 r.2 below args s) (F0 m 14 ls [.int t0, .ref (P.2.1 26)]) := by
    intro w x1 t0 h H locs ls hP hl
    unfold B_X6_sings_14 at h
    refine vt_putI S hF hP (k := 14) (ci := 6) 26 (hlt _ (by decide)) rfl (by decide) rfl (by decide) rfl tyX6 tyX6_ok nmX6 rfl rfl rfl rfl (by decide) (inC_X6 _) (List.mem_cons_of_mem _ fl_X6_46) dX6_sings_14 (fun H locs hP => ?_)
    exact hB17 _ _ h _ _ _ hP (lv_sub hl [0, 1] rfl)
  unfold F_X6_sings at h
  refine lv_aload_n hx hb dX6_sings_0 rfl (lv_at hl 0 rfl) ?_
  refine lv_aload_n hx hb dX6_sings_1 rfl (lv_at hl 0 rfl) ?_
  refine lv_iload_n hx hb dX6_sings_2 rfl (lv_at hl 1 rfl) ?_
  obtain ⟨q1, hq1, h⟩ := ob h
  refine vu_i hP (vu_V S hF hP (h := 26) (hlt _ (by decide)) rfl (by decide) rfl (c_X6_isLine l P hA hn w x1 hq1) ok_X6_isLine ml_X6_155 ⟨Nat.le_of_ble_eq_true rfl, Nat.le_of_ble_eq_true rfl⟩ rfl hl.1 rfl (Nat.le_of_ble_eq_true rfl) dX6_sings_3 ⟨Nat.le_of_ble_eq_true rfl, Nat.le_of_ble_eq_true rfl⟩) (fun H locs ho2 hP => ?_)
  refine lv_if_eq (tgt := 13) hx hb dX6_sings_6 (by decide) (fun c7 => ?_) (fun c7 => ?_)
  · rw [if_pos c7] at h
    refine lv_iconst (v := 1) hx hb dX6_sings_13 (by decide) ?_
    exact hB14 _ _ _ h _ _ _ hP (lv_sub hl [0, 1] rfl)
  · rw [if_neg c7] at h
    refine lv_iconst (v := 0) hx hb dX6_sings_9 (by decide) ?_
    refine lv_goto (tgt := 14) hx hb dX6_sings_10 (by decide) ?_
    exact hB14 _ _ _ h _ _ _ hP (lv_sub hl [0, 1] rfl)
set_option maxRecDepth 100000 in
set_option maxHeartbeats 4000000 in
theorem c_X6_singing (l : Launch) (P : Pl) (hA : Adr P) (hn : 36 ≤ P.2.2.2.1) (w : Wo) {r : Int32 × Wo} (h : F_X6_singing w = some r) : CtI l P yX6_singing cX6_singing 3 (some .int) 4 [.ref (P.2.1 26)] w r.1 r.2 := by
  have hlt : ∀ h, h < 36 → h < P.2.2.2.1 := fun h q => Nat.lt_of_lt_of_le q hn
  refine vs_met hA (by decide +kernel) (Nat.le_of_ble_eq_true rfl) (fun p e s m args below meth c ls S hF hP hl hr hk => ?_)
  have hx := S.1
  have hb := S.2.1
  replace hl : lv_has ls 3 [(0, .ref (P.2.1 26))] := hl
  have hB34 : ∀ (w : Wo) (x1 : Int32), B_X6_singing_34 w x1 = some r → ∀ (H : Heap) (locs : List Loc) (ls : Array Slot), St P s w H locs → lv_has ls 3 [(0, .ref (P.2.1 26)), (1, .int x1)] → W p l e (rmU 4 0 0) s m args below meth c H locs 0 0 (QI P (some .int) r.1 r.2 below args s) (F0 m 34 ls []) := by
    intro w x1 h H locs ls hP hl
    unfold B_X6_singing_34 at h
    refine lv_aload_n hx hb dX6_singing_34 rfl (lv_at hl 0 rfl) ?_
    refine lv_iload_n hx hb dX6_singing_35 rfl (lv_at hl 1 rfl) ?_
    obtain ⟨q3, hq3, h⟩ := ob h
    refine vu_i hP (vu_V S hF hP (h := 26) (hlt _ (by decide)) rfl (by decide) rfl (c_X6_done l P hA hn w x1 hq3) ok_X6_done ml_X6_81 ⟨Nat.le_of_ble_eq_true rfl, Nat.le_of_ble_eq_true rfl⟩ rfl hl.1 rfl (Nat.le_of_ble_eq_true rfl) dX6_singing_36 ⟨Nat.le_of_ble_eq_true rfl, Nat.le_of_ble_eq_true rfl⟩) (fun H locs ho4 hP => ?_)
    obtain rfl := Option.some.inj h
    exact ve_i (v := q3.1) S hF hP hr hk rfl dX6_singing_39
  have hL4 : ∀ (w : Wo) (n : Nat) (x1 : Int32) (x2 : Int32), jl2 (B_X6_singing_4 w) n x1 x2 = some r → ∀ (H : Heap) (locs : List Loc) (ls : Array Slot), St P s w H locs → lv_has ls 3 [(0, .ref (P.2.1 26)), (1, .int x1), (2, .int x2)] → W p l e (rmU 4 0 0) s m args below meth c H locs 0 0 (QI P (some .int) r.1 r.2 below args s) (F0 m 4 ls []) := by
    intro w
    intro n
    induction n with
    | zero =>
      intro x1 x2 h
      cases h
    | succ n ih4 =>
      intro x1 x2 h H locs ls hP hl
      replace h : B_X6_singing_4 w (jl2 (B_X6_singing_4 w) n) x1 x2 = some r := h
      revert h ih4
      generalize jl2 (B_X6_singing_4 w) n = k4
      intro ih4 h
      have hB26 : ∀ (x2 : Int32) (t0 : Int32) (t1 : Int32), B_X6_singing_26 k4 w x2 t0 t1 = some r → ∀ (H : Heap) (locs : List Loc) (ls : Array Slot), St P s w H locs → lv_has ls 3 [(0, .ref (P.2.1 26)), (2, .int x2)] → W p l e (rmU 4 0 0) s m args below meth c H locs 0 0 (QI P (some .int) r.1 r.2 below args s) (F0 m 26 ls [.int t0, .int t1]) := by
        intro x2 t0 t1 h H locs ls hP hl
        unfold B_X6_singing_26 at h
        refine lv_iadd hx hb dX6_singing_26 ?_
        refine lv_istore_n (lv' := [(1, .int (t1 + t0)), (0, .ref (P.2.1 26)), (2, .int x2)]) hx hb dX6_singing_27 rfl hl (by decide) rfl (fun ls hl => ?_)
        refine lv_iinc (v := (x2 + 1)) (lv' := [(2, .int (x2 + 1)), (1, .int (t1 + t0)), (0, .ref (P.2.1 26))]) hx hb dX6_singing_28 hl (k := 2) rfl rfl (by decide) rfl (fun ls hl => ?_)
        refine lv_goto (tgt := 4) hx hb dX6_singing_31 (by decide) ?_
        exact ih4 _ _ h _ _ _ hP (lv_sub hl [2, 1, 0] rfl)
      unfold B_X6_singing_4 at h
      refine lv_iload_n hx hb dX6_singing_4 rfl (lv_at hl 2 rfl) ?_
      refine lv_aload_n hx hb dX6_singing_5 rfl (lv_at hl 0 rfl) ?_
      obtain ⟨q1, hq1, h⟩ := ob h
      refine vu_i hP (vu_V S hF hP (h := 26) (hlt _ (by decide)) rfl (by decide) rfl (c_X6_lines l P hA hn w hq1) ok_X6_lines ml_X6_74 ⟨Nat.le_of_ble_eq_true rfl, Nat.le_of_ble_eq_true rfl⟩ rfl hl.1 rfl (Nat.le_of_ble_eq_true rfl) dX6_singing_6 ⟨Nat.le_of_ble_eq_true rfl, Nat.le_of_ble_eq_true rfl⟩) (fun H locs ho2 hP => ?_)
      refine lv_icmp_ge (tgt := 34) hx hb dX6_singing_9 (by decide) (fun c7 => ?_) (fun c7 => ?_)
      · rw [if_pos c7] at h
        exact hB34 _ _ h _ _ _ hP (lv_sub hl [0, 1] rfl)
      · rw [if_neg c7] at h
        refine lv_iload_n hx hb dX6_singing_12 rfl (lv_at hl 1 rfl) ?_
        refine lv_aload_n hx hb dX6_singing_13 rfl (lv_at hl 0 rfl) ?_
        refine lv_iload_n hx hb dX6_singing_14 rfl (lv_at hl 2 rfl) ?_
        obtain ⟨q5, hq5, h⟩ := ob h
        refine vu_i hP (vu_V S hF hP (h := 26) (hlt _ (by decide)) rfl (by decide) rfl (c_X6_isSinging l P hA hn w x2 hq5) ok_X6_isSinging ml_X6_220 ⟨Nat.le_of_ble_eq_true rfl, Nat.le_of_ble_eq_true rfl⟩ rfl hl.1 rfl (Nat.le_of_ble_eq_true rfl) dX6_singing_15 ⟨Nat.le_of_ble_eq_true rfl, Nat.le_of_ble_eq_true rfl⟩) (fun H locs ho6 hP => ?_)
        refine lv_if_eq (tgt := 25) hx hb dX6_singing_18 (by decide) (fun c8 => ?_) (fun c8 => ?_)
        · rw [if_pos c8] at h
          refine lv_iconst (v := 0) hx hb dX6_singing_25 (by decide) ?_
          exact hB26 _ _ _ h _ _ _ hP (lv_sub hl [0, 2] rfl)
        · rw [if_neg c8] at h
          refine lv_iconst (v := 1) hx hb dX6_singing_21 (by decide) ?_
          refine lv_goto (tgt := 26) hx hb dX6_singing_22 (by decide) ?_
          exact hB26 _ _ _ h _ _ _ hP (lv_sub hl [0, 2] rfl)
  unfold F_X6_singing at h
  refine lv_iconst (v := 0) hx hb dX6_singing_0 (by decide) ?_
  refine lv_istore_n (lv' := [(1, .int 0), (0, .ref (P.2.1 26))]) hx hb dX6_singing_1 rfl hl (by decide) rfl (fun ls hl => ?_)
  refine lv_iconst (v := 0) hx hb dX6_singing_2 (by decide) ?_
  refine lv_istore_n (lv' := [(2, .int 0), (1, .int 0), (0, .ref (P.2.1 26))]) hx hb dX6_singing_3 rfl hl (by decide) rfl (fun ls hl => ?_)
  exact hL4 _ fu _ _ h _ _ _ hP (lv_sub hl [2, 1, 0] rfl)
set_option maxRecDepth 100000 in
set_option maxHeartbeats 4000000 in
theorem c_X6_ranked (l : Launch) (P : Pl) (hA : Adr P) (hn : 36 ≤ P.2.2.2.1) (w : Wo) (x1 : Int32) {r : Int32 × Wo} (h : F_X6_ranked w x1 = some r) : CtI l P yX6_ranked cX6_ranked 5 (some .int) 3 [.ref (P.2.1 26), .int x1] w r.1 r.2 := by
  have hlt : ∀ h, h < 36 → h < P.2.2.2.1 := fun h q => Nat.lt_of_lt_of_le q hn
  refine vs_met hA (by decide +kernel) (Nat.le_of_ble_eq_true rfl) (fun p e s m args below meth c ls S hF hP hl hr hk => ?_)
  have hx := S.1
  have hb := S.2.1
  replace hl : lv_has ls 5 [(0, .ref (P.2.1 26)), (1, .int x1)] := hl
  have hB89 : ∀ (w : Wo), B_X6_ranked_89 w = some r → ∀ (H : Heap) (locs : List Loc) (ls : Array Slot), St P s w H locs → lv_has ls 5 [(0, .ref (P.2.1 26))] → W p l e (rmU 3 0 0) s m args below meth c H locs 0 0 (QI P (some .int) r.1 r.2 below args s) (F0 m 89 ls []) := by
    intro w h H locs ls hP hl
    unfold B_X6_ranked_89 at h
    refine lv_aload_n hx hb dX6_ranked_89 rfl (lv_at hl 0 rfl) ?_
    refine lv_iconst (v := 1) hx hb dX6_ranked_90 (by decide) ?_
    obtain ⟨q3, hq3, h⟩ := ob h
    refine vu_i hP (vu_V S hF hP (h := 26) (hlt _ (by decide)) rfl (by decide) rfl (c_X6_fails l P hA hn w 1 hq3) ok_X6_fails ml_X6_77 ⟨Nat.le_of_ble_eq_true rfl, Nat.le_of_ble_eq_true rfl⟩ rfl hl.1 rfl (Nat.le_of_ble_eq_true rfl) dX6_ranked_91 ⟨Nat.le_of_ble_eq_true rfl, Nat.le_of_ble_eq_true rfl⟩) (fun H locs ho4 hP => ?_)
    obtain rfl := Option.some.inj h
    exact ve_i (v := q3.1) S hF hP hr hk rfl dX6_ranked_94
  have hB77 : ∀ (w : Wo) (x2 : Int32), B_X6_ranked_77 w x2 = some r → ∀ (H : Heap) (locs : List Loc) (ls : Array Slot), St P s w H locs → lv_has ls 5 [(0, .ref (P.2.1 26)), (2, .int x2)] → W p l e (rmU 3 0 0) s m args below meth c H locs 0 0 (QI P (some .int) r.1 r.2 below args s) (F0 m 77 ls []) := by
    intro w x2 h H locs ls hP hl
    unfold B_X6_ranked_77 at h
    refine lv_aload_n hx hb dX6_ranked_77 rfl (lv_at hl 0 rfl) ?_
    refine lv_iload_n hx hb dX6_ranked_78 rfl (lv_at hl 1 rfl) ?_
    obtain ⟨q7, hq7, h⟩ := ob h
    refine vu_i hP (vu_V S hF hP (h := 26) (hlt _ (by decide)) rfl (by decide) rfl (c_X6_done l P hA hn w x2 hq7) ok_X6_done ml_X6_81 ⟨Nat.le_of_ble_eq_true rfl, Nat.le_of_ble_eq_true rfl⟩ rfl hl.1 rfl (Nat.le_of_ble_eq_true rfl) dX6_ranked_79 ⟨Nat.le_of_ble_eq_true rfl, Nat.le_of_ble_eq_true rfl⟩) (fun H locs ho8 hP => ?_)
    obtain rfl := Option.some.inj h
    exact ve_i (v := q7.1) S hF hP hr hk rfl dX6_ranked_82
  have hL2 : ∀ (w : Wo) (x1 : Int32) (n : Nat) (x2 : Int32), jl1 (B_X6_ranked_2 w x1) n x2 = some r → ∀ (H : Heap) (locs : List Loc) (ls : Array Slot), St P s w H locs → lv_has ls 5 [(0, .ref (P.2.1 26)), (1, .int x1), (2, .int x2)] → W p l e (rmU 3 0 0) s m args below meth c H locs 0 0 (QI P (some .int) r.1 r.2 below args s) (F0 m 2 ls []) := by
    intro w x1
    intro n
    induction n with
    | zero =>
      intro x2 h
      cases h
    | succ n ih2 =>
      intro x2 h H locs ls hP hl
      replace h : B_X6_ranked_2 w x1 (jl1 (B_X6_ranked_2 w x1) n) x2 = some r := h
      revert h ih2
      generalize jl1 (B_X6_ranked_2 w x1) n = k2
      intro ih2 h
      have hB72 : ∀ (x2 : Int32) (x3 : Int32), B_X6_ranked_72 k2 w x1 x2 x3 = some r → ∀ (H : Heap) (locs : List Loc) (ls : Array Slot), St P s w H locs → lv_has ls 5 [(0, .ref (P.2.1 26)), (1, .int x1), (2, .int x2), (3, .int x3)] → W p l e (rmU 3 0 0) s m args below meth c H locs 0 0 (QI P (some .int) r.1 r.2 below args s) (F0 m 72 ls []) := by
        intro x2 x3 h H locs ls hP hl
        unfold B_X6_ranked_72 at h
        refine lv_iload_n hx hb dX6_ranked_72 rfl (lv_at hl 3 rfl) ?_
        refine lv_iload_n hx hb dX6_ranked_73 rfl (lv_at hl 1 rfl) ?_
        refine lv_icmp_ne (tgt := 83) hx hb dX6_ranked_74 (by decide) (fun c17 => ?_) (fun c17 => ?_)
        · rw [if_neg c17] at h
          refine lv_iinc (v := (x2 + 1)) (lv' := [(2, .int (x2 + 1)), (0, .ref (P.2.1 26)), (1, .int x1), (3, .int x3)]) hx hb dX6_ranked_83 hl (k := 2) rfl rfl (by decide) rfl (fun ls hl => ?_)
          refine lv_goto (tgt := 2) hx hb dX6_ranked_86 (by decide) ?_
          exact ih2 _ h _ _ _ hP (lv_sub hl [1, 2, 0] rfl)
        · rw [if_pos c17] at h
          exact hB77 _ _ h _ _ _ hP (lv_sub hl [0, 2] rfl)
      have hL15 : ∀ (x2 : Int32) (n : Nat) (x3 : Int32) (x4 : Int32), jl2 (B_X6_ranked_15 k2 w x1 x2) n x3 x4 = some r → ∀ (H : Heap) (locs : List Loc) (ls : Array Slot), St P s w H locs → lv_has ls 5 [(0, .ref (P.2.1 26)), (1, .int x1), (2, .int x2), (3, .int x3), (4, .int x4)] → W p l e (rmU 3 0 0) s m args below meth c H locs 0 0 (QI P (some .int) r.1 r.2 below args s) (F0 m 15 ls []) := by
        intro x2
        intro n
        induction n with
        | zero =>
          intro x3 x4 h
          cases h
        | succ n ih15 =>
          intro x3 x4 h H locs ls hP hl
          replace h : B_X6_ranked_15 k2 w x1 x2 (jl2 (B_X6_ranked_15 k2 w x1 x2) n) x3 x4 = some r := h
          revert h ih15
          generalize jl2 (B_X6_ranked_15 k2 w x1 x2) n = k15
          intro ih15 h
          have hB64 : ∀ (x4 : Int32) (t0 : Int32) (t1 : Int32), B_X6_ranked_64 k2 k15 w x1 x2 x4 t0 t1 = some r → ∀ (H : Heap) (locs : List Loc) (ls : Array Slot), St P s w H locs → lv_has ls 5 [(0, .ref (P.2.1 26)), (1, .int x1), (2, .int x2), (4, .int x4)] → W p l e (rmU 3 0 0) s m args below meth c H locs 0 0 (QI P (some .int) r.1 r.2 below args s) (F0 m 64 ls [.int t0, .int t1]) := by
            intro x4 t0 t1 h H locs ls hP hl
            unfold B_X6_ranked_64 at h
            refine lv_iadd hx hb dX6_ranked_64 ?_
            refine lv_istore_n (lv' := [(3, .int (t1 + t0)), (0, .ref (P.2.1 26)), (1, .int x1), (2, .int x2), (4, .int x4)]) hx hb dX6_ranked_65 rfl hl (by decide) rfl (fun ls hl => ?_)
            refine lv_iinc (v := (x4 + 1)) (lv' := [(4, .int (x4 + 1)), (3, .int (t1 + t0)), (0, .ref (P.2.1 26)), (1, .int x1), (2, .int x2)]) hx hb dX6_ranked_66 hl (k := 4) rfl rfl (by decide) rfl (fun ls hl => ?_)
            refine lv_goto (tgt := 15) hx hb dX6_ranked_69 (by decide) ?_
            exact ih15 _ _ h _ _ _ hP (lv_sub hl [2, 3, 4, 1, 0] rfl)
          have hB59 : ∀ (x4 : Int32) (t0 : Int32), B_X6_ranked_59 k2 k15 w x1 x2 x4 t0 = some r → ∀ (H : Heap) (locs : List Loc) (ls : Array Slot), St P s w H locs → lv_has ls 5 [(0, .ref (P.2.1 26)), (1, .int x1), (2, .int x2), (4, .int x4)] → W p l e (rmU 3 0 0) s m args below meth c H locs 0 0 (QI P (some .int) r.1 r.2 below args s) (F0 m 59 ls [.int t0]) := by
            intro x4 t0 h H locs ls hP hl
            unfold B_X6_ranked_59 at h
            refine lv_iconst (v := 1) hx hb dX6_ranked_59 (by decide) ?_
            refine lv_goto (tgt := 64) hx hb dX6_ranked_60 (by decide) ?_
            exact hB64 _ _ _ h _ _ _ hP (lv_sub hl [0, 1, 2, 3] rfl)
          have hB63 : ∀ (x4 : Int32) (t0 : Int32), B_X6_ranked_63 k2 k15 w x1 x2 x4 t0 = some r → ∀ (H : Heap) (locs : List Loc) (ls : Array Slot), St P s w H locs → lv_has ls 5 [(0, .ref (P.2.1 26)), (1, .int x1), (2, .int x2), (4, .int x4)] → W p l e (rmU 3 0 0) s m args below meth c H locs 0 0 (QI P (some .int) r.1 r.2 below args s) (F0 m 63 ls [.int t0]) := by
            intro x4 t0 h H locs ls hP hl
            unfold B_X6_ranked_63 at h
            refine lv_iconst (v := 0) hx hb dX6_ranked_63 (by decide) ?_
            exact hB64 _ _ _ h _ _ _ hP (lv_sub hl [0, 1, 2, 3] rfl)
          unfold B_X6_ranked_15 at h
          refine lv_iload hx hb dX6_ranked_15 (lv_at hl 4 rfl) ?_
          refine lv_aload_n hx hb dX6_ranked_17 rfl (lv_at hl 0 rfl) ?_
          obtain ⟨q5, hq5, h⟩ := ob h
          refine vu_i hP (vu_V S hF hP (h := 26) (hlt _ (by decide)) rfl (by decide) rfl (c_X6_lines l P hA hn w hq5) ok_X6_lines ml_X6_74 ⟨Nat.le_of_ble_eq_true rfl, Nat.le_of_ble_eq_true rfl⟩ rfl hl.1 rfl (Nat.le_of_ble_eq_true rfl) dX6_ranked_18 ⟨Nat.le_of_ble_eq_true rfl, Nat.le_of_ble_eq_true rfl⟩) (fun H locs ho6 hP => ?_)
          refine lv_icmp_ge (tgt := 72) hx hb dX6_ranked_21 (by decide) (fun c18 => ?_) (fun c18 => ?_)
          · rw [if_pos c18] at h
            exact hB72 _ _ h _ _ _ hP (lv_sub hl [0, 1, 2, 3] rfl)
          · rw [if_neg c18] at h
            refine lv_iload_n hx hb dX6_ranked_24 rfl (lv_at hl 3 rfl) ?_
            refine lv_aload_n hx hb dX6_ranked_25 rfl (lv_at hl 0 rfl) ?_
            refine lv_iload hx hb dX6_ranked_26 (lv_at hl 4 rfl) ?_
            obtain ⟨q9, hq9, h⟩ := ob h
            refine vu_i hP (vu_V S hF hP (h := 26) (hlt _ (by decide)) rfl (by decide) rfl (c_X6_vowels l P hA hn w x4 hq9) ok_X6_vowels ml_X6_217 ⟨Nat.le_of_ble_eq_true rfl, Nat.le_of_ble_eq_true rfl⟩ rfl hl.1 rfl (Nat.le_of_ble_eq_true rfl) dX6_ranked_28 ⟨Nat.le_of_ble_eq_true rfl, Nat.le_of_ble_eq_true rfl⟩) (fun H locs ho10 hP => ?_)
            refine lv_aload_n hx hb dX6_ranked_31 rfl (lv_at hl 0 rfl) ?_
            refine lv_iload_n hx hb dX6_ranked_32 rfl (lv_at hl 2 rfl) ?_
            obtain ⟨q11, hq11, h⟩ := ob h
            refine vu_i hP (vu_V S hF hP (h := 26) (hlt _ (by decide)) rfl (by decide) rfl (c_X6_vowels l P hA hn w x2 hq11) ok_X6_vowels ml_X6_217 ⟨Nat.le_of_ble_eq_true rfl, Nat.le_of_ble_eq_true rfl⟩ rfl hl.1 rfl (Nat.le_of_ble_eq_true rfl) dX6_ranked_33 ⟨Nat.le_of_ble_eq_true rfl, Nat.le_of_ble_eq_true rfl⟩) (fun H locs ho12 hP => ?_)
            refine lv_icmp_gt (tgt := 59) hx hb dX6_ranked_36 (by decide) (fun c19 => ?_) (fun c19 => ?_)
            · rw [if_pos c19] at h
              exact hB59 _ _ h _ _ _ hP (lv_sub hl [0, 1, 2, 4] rfl)
            · rw [if_neg c19] at h
              refine lv_aload_n hx hb dX6_ranked_39 rfl (lv_at hl 0 rfl) ?_
              refine lv_iload hx hb dX6_ranked_40 (lv_at hl 4 rfl) ?_
              obtain ⟨q13, hq13, h⟩ := ob h
              refine vu_i hP (vu_V S hF hP (h := 26) (hlt _ (by decide)) rfl (by decide) rfl (c_X6_vowels l P hA hn w x4 hq13) ok_X6_vowels ml_X6_217 ⟨Nat.le_of_ble_eq_true rfl, Nat.le_of_ble_eq_true rfl⟩ rfl hl.1 rfl (Nat.le_of_ble_eq_true rfl) dX6_ranked_42 ⟨Nat.le_of_ble_eq_true rfl, Nat.le_of_ble_eq_true rfl⟩) (fun H locs ho14 hP => ?_)
              refine lv_aload_n hx hb dX6_ranked_45 rfl (lv_at hl 0 rfl) ?_
              refine lv_iload_n hx hb dX6_ranked_46 rfl (lv_at hl 2 rfl) ?_
              obtain ⟨q15, hq15, h⟩ := ob h
              refine vu_i hP (vu_V S hF hP (h := 26) (hlt _ (by decide)) rfl (by decide) rfl (c_X6_vowels l P hA hn w x2 hq15) ok_X6_vowels ml_X6_217 ⟨Nat.le_of_ble_eq_true rfl, Nat.le_of_ble_eq_true rfl⟩ rfl hl.1 rfl (Nat.le_of_ble_eq_true rfl) dX6_ranked_47 ⟨Nat.le_of_ble_eq_true rfl, Nat.le_of_ble_eq_true rfl⟩) (fun H locs ho16 hP => ?_)
              refine lv_icmp_ne (tgt := 63) hx hb dX6_ranked_50 (by decide) (fun c20 => ?_) (fun c20 => ?_)
              · rw [if_neg c20] at h
                exact hB63 _ _ h _ _ _ hP (lv_sub hl [0, 1, 2, 4] rfl)
              · rw [if_pos c20] at h
                refine lv_iload hx hb dX6_ranked_53 (lv_at hl 4 rfl) ?_
                refine lv_iload_n hx hb dX6_ranked_55 rfl (lv_at hl 2 rfl) ?_
                refine lv_icmp_ge (tgt := 63) hx hb dX6_ranked_56 (by decide) (fun c21 => ?_) (fun c21 => ?_)
                · rw [if_pos c21] at h
                  exact hB63 _ _ h _ _ _ hP (lv_sub hl [0, 1, 2, 4] rfl)
                · rw [if_neg c21] at h
                  exact hB59 _ _ h _ _ _ hP (lv_sub hl [0, 1, 2, 4] rfl)
      unfold B_X6_ranked_2 at h
      refine lv_iload_n hx hb dX6_ranked_2 rfl (lv_at hl 2 rfl) ?_
      refine lv_aload_n hx hb dX6_ranked_3 rfl (lv_at hl 0 rfl) ?_
      obtain ⟨q1, hq1, h⟩ := ob h
      refine vu_i hP (vu_V S hF hP (h := 26) (hlt _ (by decide)) rfl (by decide) rfl (c_X6_lines l P hA hn w hq1) ok_X6_lines ml_X6_74 ⟨Nat.le_of_ble_eq_true rfl, Nat.le_of_ble_eq_true rfl⟩ rfl hl.1 rfl (Nat.le_of_ble_eq_true rfl) dX6_ranked_4 ⟨Nat.le_of_ble_eq_true rfl, Nat.le_of_ble_eq_true rfl⟩) (fun H locs ho2 hP => ?_)
      refine lv_icmp_ge (tgt := 89) hx hb dX6_ranked_7 (by decide) (fun c22 => ?_) (fun c22 => ?_)
      · rw [if_pos c22] at h
        exact hB89 _ h _ _ _ hP (lv_sub hl [0] rfl)
      · rw [if_neg c22] at h
        refine lv_iconst (v := 0) hx hb dX6_ranked_10 (by decide) ?_
        refine lv_istore_n (lv' := [(3, .int 0), (0, .ref (P.2.1 26)), (1, .int x1), (2, .int x2)]) hx hb dX6_ranked_11 rfl hl (by decide) rfl (fun ls hl => ?_)
        refine lv_iconst (v := 0) hx hb dX6_ranked_12 (by decide) ?_
        refine lv_istore (lv' := [(4, .int 0), (3, .int 0), (0, .ref (P.2.1 26)), (1, .int x1), (2, .int x2)]) hx hb dX6_ranked_13 hl (by decide) rfl (fun ls hl => ?_)
        exact hL15 _ fu _ _ h _ _ _ hP (lv_sub hl [2, 3, 4, 1, 0] rfl)
  unfold F_X6_ranked at h
  refine lv_iconst (v := 0) hx hb dX6_ranked_0 (by decide) ?_
  refine lv_istore_n (lv' := [(2, .int 0), (0, .ref (P.2.1 26)), (1, .int x1)]) hx hb dX6_ranked_1 rfl hl (by decide) rfl (fun ls hl => ?_)
  exact hL2 _ _ fu _ h _ _ _ hP (lv_sub hl [1, 2, 0] rfl)
set_option maxRecDepth 100000 in
set_option maxHeartbeats 4000000 in
theorem c_X6_writes (l : Launch) (P : Pl) (hA : Adr P) (hn : 36 ≤ P.2.2.2.1) (w : Wo) (x1 : Int32) {r : Wo} (h : F_X6_writes w x1 = some r) : CtV l P yX6_writes cX6_writes 2 none 0 [.ref (P.2.1 26), .int x1] w r := by
  have hlt : ∀ h, h < 36 → h < P.2.2.2.1 := fun h q => Nat.lt_of_lt_of_le q hn
  refine vs_met hA (by decide +kernel) (Nat.le_of_ble_eq_true rfl) (fun p e s m args below meth c ls S hF hP hl hr hk => ?_)
  have hx := S.1
  have hb := S.2.1
  replace hl : lv_has ls 2 [(0, .ref (P.2.1 26)), (1, .int x1)] := hl
  have hB11 : ∀ (w : Wo), B_X6_writes_11 w = some r → ∀ (H : Heap) (locs : List Loc) (ls : Array Slot), St P s w H locs → lv_has ls 2 [(0, .ref (P.2.1 26))] → W p l e (rmU 0 0 0) s m args below meth c H locs 0 0 (QV P r below args s) (F0 m 11 ls []) := by
    intro w h H locs ls hP hl
    unfold B_X6_writes_11 at h
    refine lv_aload_n hx hb dX6_writes_11 rfl (lv_at hl 0 rfl) ?_
    refine lv_dup hx hb dX6_writes_12 rfl ?_
    refine vt_getI S hF hP (k := 13) (ci := 6) 26 (hlt _ (by decide)) rfl (by decide) rfl (by decide) rfl (inC_X6 _) (List.mem_cons_of_mem _ fl_X6_223) dX6_writes_13 ?_
    refine lv_iconst (v := 1) hx hb dX6_writes_16 (by decide) ?_
    refine lv_iadd hx hb dX6_writes_17 ?_
    refine vt_putI S hF hP (k := 13) (ci := 6) 26 (hlt _ (by decide)) rfl (by decide) rfl (by decide) rfl tyX6 tyX6_ok nmX6 rfl rfl rfl rfl (by decide) (inC_X6 _) (List.mem_cons_of_mem _ fl_X6_223) dX6_writes_18 (fun H locs hP => ?_)
    obtain rfl := Option.some.inj h
    exact ve_v S hF hP hr hk dX6_writes_21
  unfold F_X6_writes at h
  refine lv_aload_n hx hb dX6_writes_0 rfl (lv_at hl 0 rfl) ?_
  refine vt_getR (r := 32) S hF hP (k := 12) (ci := 6) 26 (hlt _ (by decide)) rfl (by decide) rfl (by decide) rfl rfl (inC_X6 _) (List.mem_cons_of_mem _ fl_X6_30) dX6_writes_1 ?_
  refine lv_aload_n hx hb dX6_writes_4 rfl (lv_at hl 0 rfl) ?_
  refine vt_getI S hF hP (k := 13) (ci := 6) 26 (hlt _ (by decide)) rfl (by decide) rfl (by decide) rfl (inC_X6 _) (List.mem_cons_of_mem _ fl_X6_223) dX6_writes_5 ?_
  refine lv_iload_n hx hb dX6_writes_8 rfl (lv_at hl 1 rfl) ?_
  refine lv_i2c hx hb dX6_writes_9 rfl ?_
  obtain ⟨c1, h⟩ := chk h
  refine vt_cast S hF hP (hlt _ (by decide)) rfl c1 dX6_writes_10 (fun H locs hP => ?_)
  exact hB11 _ h _ _ _ hP (lv_sub hl [0] rfl)
set_option maxRecDepth 100000 in
set_option maxHeartbeats 4000000 in
theorem c_X6_writesAll (l : Launch) (P : Pl) (hA : Adr P) (hn : 36 ≤ P.2.2.2.1) (w : Wo) (x1 : Int32) {r : Int32 × Wo} (h : F_X6_writesAll w x1 = some r) : CtI l P yX6_writesAll cX6_writesAll 3 (some .int) 1 [.ref (P.2.1 26), .int x1] w r.1 r.2 := by
  have hlt : ∀ h, h < 36 → h < P.2.2.2.1 := fun h q => Nat.lt_of_lt_of_le q hn
  refine vs_met hA (by decide +kernel) (Nat.le_of_ble_eq_true rfl) (fun p e s m args below meth c ls S hF hP hl hr hk => ?_)
  have hx := S.1
  have hb := S.2.1
  replace hl : lv_has ls 3 [(0, .ref (P.2.1 26)), (1, .int x1)] := hl
  have hB57 : ∀ (w : Wo), B_X6_writesAll_57 w = some r → ∀ (H : Heap) (locs : List Loc) (ls : Array Slot), St P s w H locs → lv_has ls 3 [(0, .ref (P.2.1 26))] → W p l e (rmU 1 0 0) s m args below meth c H locs 0 0 (QI P (some .int) r.1 r.2 below args s) (F0 m 57 ls []) := by
    intro w h H locs ls hP hl
    unfold B_X6_writesAll_57 at h
    refine lv_aload_n hx hb dX6_writesAll_57 rfl (lv_at hl 0 rfl) ?_
    refine lv_aload_n hx hb dX6_writesAll_58 rfl (lv_at hl 0 rfl) ?_
    refine vt_getI S hF hP (k := 13) (ci := 6) 26 (hlt _ (by decide)) rfl (by decide) rfl (by decide) rfl (inC_X6 _) (List.mem_cons_of_mem _ fl_X6_223) dX6_writesAll_59 ?_
    obtain ⟨q3, hq3, h⟩ := ob h
    refine vu_i hP (vu_V S hF hP (h := 26) (hlt _ (by decide)) rfl (by decide) rfl (c_X6_done l P hA hn w (gI w 26 13) hq3) ok_X6_done ml_X6_81 ⟨Nat.le_of_ble_eq_true rfl, Nat.le_of_ble_eq_true rfl⟩ rfl hl.1 rfl (Nat.le_of_ble_eq_true rfl) dX6_writesAll_62 ⟨Nat.le_of_ble_eq_true rfl, Nat.le_of_ble_eq_true rfl⟩) (fun H locs ho4 hP => ?_)
    obtain rfl := Option.some.inj h
    exact ve_i (v := q3.1) S hF hP hr hk rfl dX6_writesAll_65
  have hL7 : ∀ (x1 : Int32) (n : Nat) (w : Wo) (x2 : Int32), jl2 (B_X6_writesAll_7 x1) n w x2 = some r → ∀ (H : Heap) (locs : List Loc) (ls : Array Slot), St P s w H locs → lv_has ls 3 [(0, .ref (P.2.1 26)), (1, .int x1), (2, .int x2)] → W p l e (rmU 1 0 0) s m args below meth c H locs 0 0 (QI P (some .int) r.1 r.2 below args s) (F0 m 7 ls []) := by
    intro x1
    intro n
    induction n with
    | zero =>
      intro w x2 h
      cases h
    | succ n ih7 =>
      intro w x2 h H locs ls hP hl
      replace h : B_X6_writesAll_7 x1 (jl2 (B_X6_writesAll_7 x1) n) w x2 = some r := h
      revert h ih7
      generalize jl2 (B_X6_writesAll_7 x1) n = k7
      intro ih7 h
      have hB36 : ∀ (w : Wo) (x2 : Int32), B_X6_writesAll_36 k7 w x1 x2 = some r → ∀ (H : Heap) (locs : List Loc) (ls : Array Slot), St P s w H locs → lv_has ls 3 [(0, .ref (P.2.1 26)), (1, .int x1), (2, .int x2)] → W p l e (rmU 1 0 0) s m args below meth c H locs 0 0 (QI P (some .int) r.1 r.2 below args s) (F0 m 36 ls []) := by
        intro w x2 h H locs ls hP hl
        unfold B_X6_writesAll_36 at h
        refine lv_aload_n hx hb dX6_writesAll_36 rfl (lv_at hl 0 rfl) ?_
        refine lv_aload_n hx hb dX6_writesAll_37 rfl (lv_at hl 0 rfl) ?_
        refine vt_getR (r := 27) S hF hP (k := 0) (ci := 6) 26 (hlt _ (by decide)) rfl (by decide) rfl (by decide) rfl rfl (inC_X6 _) (List.mem_cons_of_mem _ fl_X6_7) dX6_writesAll_38 ?_
        refine lv_iload_n hx hb dX6_writesAll_41 rfl (lv_at hl 1 rfl) ?_
        refine lv_iload_n hx hb dX6_writesAll_42 rfl (lv_at hl 2 rfl) ?_
        refine lv_iadd hx hb dX6_writesAll_43 ?_
        obtain ⟨c8, h⟩ := chk h
        refine vt_iald S hF hP (hlt _ (by decide)) rfl c8 dX6_writesAll_44 ?_
        refine vu_i hP (vu_S S hF hP (c_X6_signOf l P hA hn w (gI w 27 (Int32.toNatClampNeg (x1 + x2)))) ok_X6_signOf ml_X6_98 ⟨Nat.le_of_ble_eq_true rfl, Nat.le_of_ble_eq_true rfl⟩ rfl hl.1 rfl (Nat.le_of_ble_eq_true rfl) dX6_writesAll_45 ⟨Nat.le_of_ble_eq_true rfl, Nat.le_of_ble_eq_true rfl⟩) (fun H locs ho5 hP => ?_)
        obtain ⟨q6, hq6, h⟩ := ob h
        refine vu_v hP (vu_V S hF hP (h := 26) (hlt _ (by decide)) rfl (by decide) rfl (c_X6_writes l P hA hn w (F_X6_signOf (gI w 27 (Int32.toNatClampNeg (x1 + x2)))) hq6) ok_X6_writes ml_X6_226 ⟨Nat.le_of_ble_eq_true rfl, Nat.le_of_ble_eq_true rfl⟩ rfl hl.1 rfl (Nat.le_of_ble_eq_true rfl) dX6_writesAll_48 ⟨Nat.le_of_ble_eq_true rfl, Nat.le_of_ble_eq_true rfl⟩) (fun H locs hP => ?_)
        refine lv_iinc (v := (x2 + 1)) (lv' := [(2, .int (x2 + 1)), (0, .ref (P.2.1 26)), (1, .int x1)]) hx hb dX6_writesAll_51 hl (k := 2) rfl rfl (by decide) rfl (fun ls hl => ?_)
        refine lv_goto (tgt := 7) hx hb dX6_writesAll_54 (by decide) ?_
        exact ih7 _ _ h _ _ _ hP (lv_sub hl [1, 2, 0] rfl)
      unfold B_X6_writesAll_7 at h
      refine lv_iload_n hx hb dX6_writesAll_7 rfl (lv_at hl 2 rfl) ?_
      refine lv_aload_n hx hb dX6_writesAll_8 rfl (lv_at hl 0 rfl) ?_
      obtain ⟨q1, hq1, h⟩ := ob h
      refine vu_i hP (vu_V S hF hP (h := 26) (hlt _ (by decide)) rfl (by decide) rfl (c_X6_places l P hA hn w hq1) ok_X6_places ml_X6_66 ⟨Nat.le_of_ble_eq_true rfl, Nat.le_of_ble_eq_true rfl⟩ rfl hl.1 rfl (Nat.le_of_ble_eq_true rfl) dX6_writesAll_9 ⟨Nat.le_of_ble_eq_true rfl, Nat.le_of_ble_eq_true rfl⟩) (fun H locs ho2 hP => ?_)
      refine lv_icmp_ge (tgt := 57) hx hb dX6_writesAll_12 (by decide) (fun c9 => ?_) (fun c9 => ?_)
      · rw [if_pos c9] at h
        exact hB57 _ h _ _ _ hP (lv_sub hl [0] rfl)
      · rw [if_neg c9] at h
        refine lv_iload_n hx hb dX6_writesAll_15 rfl (lv_at hl 2 rfl) ?_
        refine lv_if_le (tgt := 36) hx hb dX6_writesAll_16 (by decide) (fun c10 => ?_) (fun c10 => ?_)
        · rw [if_pos c10] at h
          exact hB36 _ _ h _ _ _ hP (lv_sub hl [0, 1, 2] rfl)
        · rw [if_neg c10] at h
          refine lv_iload_n hx hb dX6_writesAll_19 rfl (lv_at hl 2 rfl) ?_
          refine lv_aload_n hx hb dX6_writesAll_20 rfl (lv_at hl 0 rfl) ?_
          refine vt_getR (r := 27) S hF hP (k := 0) (ci := 6) 26 (hlt _ (by decide)) rfl (by decide) rfl (by decide) rfl rfl (inC_X6 _) (List.mem_cons_of_mem _ fl_X6_7) dX6_writesAll_21 ?_
          refine lv_iconst (v := 1) hx hb dX6_writesAll_24 (by decide) ?_
          refine vt_ialdK 1 (by decide) S hF hP (hlt _ (by decide)) rfl (by decide) dX6_writesAll_25 ?_
          obtain ⟨c11, h⟩ := chk h
          refine lv_irem hx hb dX6_writesAll_26 c11 ?_
          refine lv_if_ne (tgt := 36) hx hb dX6_writesAll_27 (by decide) (fun c12 => ?_) (fun c12 => ?_)
          · rw [if_neg c12] at h
            exact hB36 _ _ h _ _ _ hP (lv_sub hl [0, 1, 2] rfl)
          · rw [if_pos c12] at h
            refine lv_aload_n hx hb dX6_writesAll_30 rfl (lv_at hl 0 rfl) ?_
            refine lv_bipush (v := 47) hx hb dX6_writesAll_31 (by decide) ?_
            obtain ⟨q7, hq7, h⟩ := ob h
            refine vu_v hP (vu_V S hF hP (h := 26) (hlt _ (by decide)) rfl (by decide) rfl (c_X6_writes l P hA hn w 47 hq7) ok_X6_writes ml_X6_226 ⟨Nat.le_of_ble_eq_true rfl, Nat.le_of_ble_eq_true rfl⟩ rfl hl.1 rfl (Nat.le_of_ble_eq_true rfl) dX6_writesAll_33 ⟨Nat.le_of_ble_eq_true rfl, Nat.le_of_ble_eq_true rfl⟩) (fun H locs hP => ?_)
            exact hB36 _ _ h _ _ _ hP (lv_sub hl [0, 1, 2] rfl)
  have hB5 : ∀ (w : Wo) (x1 : Int32), B_X6_writesAll_5 w x1 = some r → ∀ (H : Heap) (locs : List Loc) (ls : Array Slot), St P s w H locs → lv_has ls 3 [(0, .ref (P.2.1 26)), (1, .int x1)] → W p l e (rmU 1 0 0) s m args below meth c H locs 0 0 (QI P (some .int) r.1 r.2 below args s) (F0 m 5 ls []) := by
    intro w x1 h H locs ls hP hl
    unfold B_X6_writesAll_5 at h
    refine lv_iconst (v := 0) hx hb dX6_writesAll_5 (by decide) ?_
    refine lv_istore_n (lv' := [(2, .int 0), (0, .ref (P.2.1 26)), (1, .int x1)]) hx hb dX6_writesAll_6 rfl hl (by decide) rfl (fun ls hl => ?_)
    exact hL7 _ fu _ _ h _ _ _ hP (lv_sub hl [1, 2, 0] rfl)
  unfold F_X6_writesAll at h
  refine lv_aload_n hx hb dX6_writesAll_0 rfl (lv_at hl 0 rfl) ?_
  refine lv_iconst (v := 0) hx hb dX6_writesAll_1 (by decide) ?_
  refine vt_putI S hF hP (k := 13) (ci := 6) 26 (hlt _ (by decide)) rfl (by decide) rfl (by decide) rfl tyX6 tyX6_ok nmX6 rfl rfl rfl rfl (by decide) (inC_X6 _) (List.mem_cons_of_mem _ fl_X6_223) dX6_writesAll_2 (fun H locs hP => ?_)
  exact hB5 _ _ h _ _ _ hP (lv_sub hl [0, 1] rfl)
set_option maxRecDepth 100000 in
set_option maxHeartbeats 4000000 in
theorem c_X6_text (l : Launch) (P : Pl) (hA : Adr P) (hn : 36 ≤ P.2.2.2.1) (w : Wo) {r : Int32 × Wo} (h : F_X6_text w = some r) : CtI l P yX6_text cX6_text 1 (some .int) 2 [.ref (P.2.1 26)] w r.1 r.2 := by
  have hlt : ∀ h, h < 36 → h < P.2.2.2.1 := fun h q => Nat.lt_of_lt_of_le q hn
  refine vs_met hA (by decide +kernel) (Nat.le_of_ble_eq_true rfl) (fun p e s m args below meth c ls S hF hP hl hr hk => ?_)
  have hx := S.1
  have hb := S.2.1
  replace hl : lv_has ls 1 [(0, .ref (P.2.1 26))] := hl
  unfold F_X6_text at h
  refine lv_aload_n hx hb dX6_text_0 rfl (lv_at hl 0 rfl) ?_
  refine lv_bipush (v := 14) hx hb dX6_text_1 (by decide) ?_
  obtain ⟨q1, hq1, h⟩ := ob h
  refine vu_i hP (vu_V S hF hP (h := 26) (hlt _ (by decide)) rfl (by decide) rfl (c_X6_writesAll l P hA hn w 14 hq1) ok_X6_writesAll ml_X6_229 ⟨Nat.le_of_ble_eq_true rfl, Nat.le_of_ble_eq_true rfl⟩ rfl hl.1 rfl (Nat.le_of_ble_eq_true rfl) dX6_text_3 ⟨Nat.le_of_ble_eq_true rfl, Nat.le_of_ble_eq_true rfl⟩) (fun H locs ho2 hP => ?_)
  obtain rfl := Option.some.inj h
  exact ve_i (v := q1.1) S hF hP hr hk rfl dX6_text_6
set_option maxRecDepth 100000 in
set_option maxHeartbeats 4000000 in
theorem c_X6_goalText (l : Launch) (P : Pl) (hA : Adr P) (hn : 36 ≤ P.2.2.2.1) (w : Wo) {r : Int32 × Wo} (h : F_X6_goalText w = some r) : CtI l P yX6_goalText cX6_goalText 1 (some .int) 2 [.ref (P.2.1 26)] w r.1 r.2 := by
  have hlt : ∀ h, h < 36 → h < P.2.2.2.1 := fun h q => Nat.lt_of_lt_of_le q hn
  refine vs_met hA (by decide +kernel) (Nat.le_of_ble_eq_true rfl) (fun p e s m args below meth c ls S hF hP hl hr hk => ?_)
  have hx := S.1
  have hb := S.2.1
  replace hl : lv_has ls 1 [(0, .ref (P.2.1 26))] := hl
  unfold F_X6_goalText at h
  refine lv_aload_n hx hb dX6_goalText_0 rfl (lv_at hl 0 rfl) ?_
  refine lv_bipush (v := 23) hx hb dX6_goalText_1 (by decide) ?_
  obtain ⟨q1, hq1, h⟩ := ob h
  refine vu_i hP (vu_V S hF hP (h := 26) (hlt _ (by decide)) rfl (by decide) rfl (c_X6_writesAll l P hA hn w 23 hq1) ok_X6_writesAll ml_X6_229 ⟨Nat.le_of_ble_eq_true rfl, Nat.le_of_ble_eq_true rfl⟩ rfl hl.1 rfl (Nat.le_of_ble_eq_true rfl) dX6_goalText_3 ⟨Nat.le_of_ble_eq_true rfl, Nat.le_of_ble_eq_true rfl⟩) (fun H locs ho2 hP => ?_)
  obtain rfl := Option.some.inj h
  exact ve_i (v := q1.1) S hF hP hr hk rfl dX6_goalText_6
set_option maxRecDepth 100000 in
set_option maxHeartbeats 4000000 in
theorem c_X6_lineText (l : Launch) (P : Pl) (hA : Adr P) (hn : 36 ≤ P.2.2.2.1) (w : Wo) (x1 : Int32) {r : Int32 × Wo} (h : F_X6_lineText w x1 = some r) : CtI l P yX6_lineText cX6_lineText 3 (some .int) 4 [.ref (P.2.1 26), .int x1] w r.1 r.2 := by
  have hlt : ∀ h, h < 36 → h < P.2.2.2.1 := fun h q => Nat.lt_of_lt_of_le q hn
  refine vs_met hA (by decide +kernel) (Nat.le_of_ble_eq_true rfl) (fun p e s m args below meth c ls S hF hP hl hr hk => ?_)
  have hx := S.1
  have hb := S.2.1
  replace hl : lv_has ls 3 [(0, .ref (P.2.1 26)), (1, .int x1)] := hl
  have hB90 : ∀ (w : Wo), B_X6_lineText_90 w = some r → ∀ (H : Heap) (locs : List Loc) (ls : Array Slot), St P s w H locs → lv_has ls 3 [(0, .ref (P.2.1 26))] → W p l e (rmU 4 0 0) s m args below meth c H locs 0 0 (QI P (some .int) r.1 r.2 below args s) (F0 m 90 ls []) := by
    intro w h H locs ls hP hl
    unfold B_X6_lineText_90 at h
    refine lv_aload_n hx hb dX6_lineText_90 rfl (lv_at hl 0 rfl) ?_
    refine lv_aload_n hx hb dX6_lineText_91 rfl (lv_at hl 0 rfl) ?_
    refine vt_getI S hF hP (k := 13) (ci := 6) 26 (hlt _ (by decide)) rfl (by decide) rfl (by decide) rfl (inC_X6 _) (List.mem_cons_of_mem _ fl_X6_223) dX6_lineText_92 ?_
    obtain ⟨q7, hq7, h⟩ := ob h
    refine vu_i hP (vu_V S hF hP (h := 26) (hlt _ (by decide)) rfl (by decide) rfl (c_X6_done l P hA hn w (gI w 26 13) hq7) ok_X6_done ml_X6_81 ⟨Nat.le_of_ble_eq_true rfl, Nat.le_of_ble_eq_true rfl⟩ rfl hl.1 rfl (Nat.le_of_ble_eq_true rfl) dX6_lineText_95 ⟨Nat.le_of_ble_eq_true rfl, Nat.le_of_ble_eq_true rfl⟩) (fun H locs ho8 hP => ?_)
    obtain rfl := Option.some.inj h
    exact ve_i (v := q7.1) S hF hP hr hk rfl dX6_lineText_98
  have hB76 : ∀ (w : Wo) (x1 : Int32), B_X6_lineText_76 w x1 = some r → ∀ (H : Heap) (locs : List Loc) (ls : Array Slot), St P s w H locs → lv_has ls 3 [(0, .ref (P.2.1 26)), (1, .int x1)] → W p l e (rmU 4 0 0) s m args below meth c H locs 0 0 (QI P (some .int) r.1 r.2 below args s) (F0 m 76 ls []) := by
    intro w x1 h H locs ls hP hl
    unfold B_X6_lineText_76 at h
    refine lv_aload_n hx hb dX6_lineText_76 rfl (lv_at hl 0 rfl) ?_
    refine lv_iload_n hx hb dX6_lineText_77 rfl (lv_at hl 1 rfl) ?_
    obtain ⟨q5, hq5, h⟩ := ob h
    refine vu_i hP (vu_V S hF hP (h := 26) (hlt _ (by decide)) rfl (by decide) rfl (c_X6_isSinging l P hA hn w x1 hq5) ok_X6_isSinging ml_X6_220 ⟨Nat.le_of_ble_eq_true rfl, Nat.le_of_ble_eq_true rfl⟩ rfl hl.1 rfl (Nat.le_of_ble_eq_true rfl) dX6_lineText_78 ⟨Nat.le_of_ble_eq_true rfl, Nat.le_of_ble_eq_true rfl⟩) (fun H locs ho6 hP => ?_)
    refine lv_if_eq (tgt := 90) hx hb dX6_lineText_81 (by decide) (fun c17 => ?_) (fun c17 => ?_)
    · rw [if_pos c17] at h
      exact hB90 _ h _ _ _ hP (lv_sub hl [0] rfl)
    · rw [if_neg c17] at h
      refine lv_aload_n hx hb dX6_lineText_84 rfl (lv_at hl 0 rfl) ?_
      refine lv_bipush (v := 33) hx hb dX6_lineText_85 (by decide) ?_
      obtain ⟨q9, hq9, h⟩ := ob h
      refine vu_v hP (vu_V S hF hP (h := 26) (hlt _ (by decide)) rfl (by decide) rfl (c_X6_writes l P hA hn w 33 hq9) ok_X6_writes ml_X6_226 ⟨Nat.le_of_ble_eq_true rfl, Nat.le_of_ble_eq_true rfl⟩ rfl hl.1 rfl (Nat.le_of_ble_eq_true rfl) dX6_lineText_87 ⟨Nat.le_of_ble_eq_true rfl, Nat.le_of_ble_eq_true rfl⟩) (fun H locs hP => ?_)
      exact hB90 _ h _ _ _ hP (lv_sub hl [0] rfl)
  have hL40 : ∀ (x1 : Int32) (n : Nat) (w : Wo) (x2 : Int32), jl2 (B_X6_lineText_40 x1) n w x2 = some r → ∀ (H : Heap) (locs : List Loc) (ls : Array Slot), St P s w H locs → lv_has ls 3 [(0, .ref (P.2.1 26)), (1, .int x1), (2, .int x2)] → W p l e (rmU 4 0 0) s m args below meth c H locs 0 0 (QI P (some .int) r.1 r.2 below args s) (F0 m 40 ls []) := by
    intro x1
    intro n
    induction n with
    | zero =>
      intro w x2 h
      cases h
    | succ n ih40 =>
      intro w x2 h H locs ls hP hl
      replace h : B_X6_lineText_40 x1 (jl2 (B_X6_lineText_40 x1) n) w x2 = some r := h
      revert h ih40
      generalize jl2 (B_X6_lineText_40 x1) n = k40
      intro ih40 h
      unfold B_X6_lineText_40 at h
      refine lv_iload_n hx hb dX6_lineText_40 rfl (lv_at hl 2 rfl) ?_
      refine lv_aload_n hx hb dX6_lineText_41 rfl (lv_at hl 0 rfl) ?_
      refine lv_iload_n hx hb dX6_lineText_42 rfl (lv_at hl 1 rfl) ?_
      obtain ⟨q3, hq3, h⟩ := ob h
      refine vu_i hP (vu_V S hF hP (h := 26) (hlt _ (by decide)) rfl (by decide) rfl (c_X6_lengthOf l P hA hn w x1 hq3) ok_X6_lengthOf ml_X6_205 ⟨Nat.le_of_ble_eq_true rfl, Nat.le_of_ble_eq_true rfl⟩ rfl hl.1 rfl (Nat.le_of_ble_eq_true rfl) dX6_lineText_43 ⟨Nat.le_of_ble_eq_true rfl, Nat.le_of_ble_eq_true rfl⟩) (fun H locs ho4 hP => ?_)
      refine lv_icmp_ge (tgt := 76) hx hb dX6_lineText_46 (by decide) (fun c18 => ?_) (fun c18 => ?_)
      · rw [if_pos c18] at h
        exact hB76 _ _ h _ _ _ hP (lv_sub hl [0, 1] rfl)
      · rw [if_neg c18] at h
        refine lv_aload_n hx hb dX6_lineText_49 rfl (lv_at hl 0 rfl) ?_
        refine lv_aload_n hx hb dX6_lineText_50 rfl (lv_at hl 0 rfl) ?_
        refine vt_getR (r := 27) S hF hP (k := 0) (ci := 6) 26 (hlt _ (by decide)) rfl (by decide) rfl (by decide) rfl rfl (inC_X6 _) (List.mem_cons_of_mem _ fl_X6_7) dX6_lineText_51 ?_
        refine lv_bipush (v := 14) hx hb dX6_lineText_54 (by decide) ?_
        refine lv_aload_n hx hb dX6_lineText_56 rfl (lv_at hl 0 rfl) ?_
        refine lv_iload_n hx hb dX6_lineText_57 rfl (lv_at hl 1 rfl) ?_
        refine lv_iload_n hx hb dX6_lineText_58 rfl (lv_at hl 2 rfl) ?_
        obtain ⟨q10, hq10, h⟩ := ob h
        refine vu_i hP (vu_V S hF hP (h := 26) (hlt _ (by decide)) rfl (by decide) rfl (c_X6_placeOn l P hA hn w x1 x2 hq10) ok_X6_placeOn ml_X6_208 ⟨Nat.le_of_ble_eq_true rfl, Nat.le_of_ble_eq_true rfl⟩ rfl hl.1 rfl (Nat.le_of_ble_eq_true rfl) dX6_lineText_59 ⟨Nat.le_of_ble_eq_true rfl, Nat.le_of_ble_eq_true rfl⟩) (fun H locs ho11 hP => ?_)
        refine lv_iadd hx hb dX6_lineText_62 ?_
        obtain ⟨c19, h⟩ := chk h
        refine vt_iald S hF hP (hlt _ (by decide)) rfl c19 dX6_lineText_63 ?_
        refine vu_i hP (vu_S S hF hP (c_X6_signOf l P hA hn w (gI w 27 (Int32.toNatClampNeg ((14 : Int32) + q10)))) ok_X6_signOf ml_X6_98 ⟨Nat.le_of_ble_eq_true rfl, Nat.le_of_ble_eq_true rfl⟩ rfl hl.1 rfl (Nat.le_of_ble_eq_true rfl) dX6_lineText_64 ⟨Nat.le_of_ble_eq_true rfl, Nat.le_of_ble_eq_true rfl⟩) (fun H locs ho12 hP => ?_)
        obtain ⟨q13, hq13, h⟩ := ob h
        refine vu_v hP (vu_V S hF hP (h := 26) (hlt _ (by decide)) rfl (by decide) rfl (c_X6_writes l P hA hn w (F_X6_signOf (gI w 27 (Int32.toNatClampNeg ((14 : Int32) + q10)))) hq13) ok_X6_writes ml_X6_226 ⟨Nat.le_of_ble_eq_true rfl, Nat.le_of_ble_eq_true rfl⟩ rfl hl.1 rfl (Nat.le_of_ble_eq_true rfl) dX6_lineText_67 ⟨Nat.le_of_ble_eq_true rfl, Nat.le_of_ble_eq_true rfl⟩) (fun H locs hP => ?_)
        refine lv_iinc (v := (x2 + 1)) (lv' := [(2, .int (x2 + 1)), (0, .ref (P.2.1 26)), (1, .int x1)]) hx hb dX6_lineText_70 hl (k := 2) rfl rfl (by decide) rfl (fun ls hl => ?_)
        refine lv_goto (tgt := 40) hx hb dX6_lineText_73 (by decide) ?_
        exact ih40 _ _ h _ _ _ hP (lv_sub hl [1, 2, 0] rfl)
  have hB38 : ∀ (w : Wo) (x1 : Int32), B_X6_lineText_38 w x1 = some r → ∀ (H : Heap) (locs : List Loc) (ls : Array Slot), St P s w H locs → lv_has ls 3 [(0, .ref (P.2.1 26)), (1, .int x1)] → W p l e (rmU 4 0 0) s m args below meth c H locs 0 0 (QI P (some .int) r.1 r.2 below args s) (F0 m 38 ls []) := by
    intro w x1 h H locs ls hP hl
    unfold B_X6_lineText_38 at h
    refine lv_iconst (v := 0) hx hb dX6_lineText_38 (by decide) ?_
    refine lv_istore_n (lv' := [(2, .int 0), (0, .ref (P.2.1 26)), (1, .int x1)]) hx hb dX6_lineText_39 rfl hl (by decide) rfl (fun ls hl => ?_)
    exact hL40 _ fu _ _ h _ _ _ hP (lv_sub hl [1, 2, 0] rfl)
  have hB19 : ∀ (w : Wo) (x1 : Int32), B_X6_lineText_19 w x1 = some r → ∀ (H : Heap) (locs : List Loc) (ls : Array Slot), St P s w H locs → lv_has ls 3 [(0, .ref (P.2.1 26)), (1, .int x1)] → W p l e (rmU 4 0 0) s m args below meth c H locs 0 0 (QI P (some .int) r.1 r.2 below args s) (F0 m 19 ls []) := by
    intro w x1 h H locs ls hP hl
    unfold B_X6_lineText_19 at h
    refine lv_aload_n hx hb dX6_lineText_19 rfl (lv_at hl 0 rfl) ?_
    refine vt_getR (r := 27) S hF hP (k := 0) (ci := 6) 26 (hlt _ (by decide)) rfl (by decide) rfl (by decide) rfl rfl (inC_X6 _) (List.mem_cons_of_mem _ fl_X6_7) dX6_lineText_20 ?_
    refine lv_bipush (v := 8) hx hb dX6_lineText_23 (by decide) ?_
    refine lv_iload_n hx hb dX6_lineText_25 rfl (lv_at hl 1 rfl) ?_
    refine lv_iadd hx hb dX6_lineText_26 ?_
    obtain ⟨c20, h⟩ := chk h
    refine vt_iald S hF hP (hlt _ (by decide)) rfl c20 dX6_lineText_27 ?_
    refine lv_iconst (v := 1) hx hb dX6_lineText_28 (by decide) ?_
    refine lv_icmp_ne (tgt := 38) hx hb dX6_lineText_29 (by decide) (fun c21 => ?_) (fun c21 => ?_)
    · rw [if_neg c21] at h
      exact hB38 _ _ h _ _ _ hP (lv_sub hl [0, 1] rfl)
    · rw [if_pos c21] at h
      refine lv_aload_n hx hb dX6_lineText_32 rfl (lv_at hl 0 rfl) ?_
      refine lv_bipush (v := 35) hx hb dX6_lineText_33 (by decide) ?_
      obtain ⟨q14, hq14, h⟩ := ob h
      refine vu_v hP (vu_V S hF hP (h := 26) (hlt _ (by decide)) rfl (by decide) rfl (c_X6_writes l P hA hn w 35 hq14) ok_X6_writes ml_X6_226 ⟨Nat.le_of_ble_eq_true rfl, Nat.le_of_ble_eq_true rfl⟩ rfl hl.1 rfl (Nat.le_of_ble_eq_true rfl) dX6_lineText_35 ⟨Nat.le_of_ble_eq_true rfl, Nat.le_of_ble_eq_true rfl⟩) (fun H locs hP => ?_)
      exact hB38 _ _ h _ _ _ hP (lv_sub hl [0, 1] rfl)
  unfold F_X6_lineText at h
  refine lv_aload_n hx hb dX6_lineText_0 rfl (lv_at hl 0 rfl) ?_
  refine lv_iload_n hx hb dX6_lineText_1 rfl (lv_at hl 1 rfl) ?_
  obtain ⟨q1, hq1, h⟩ := ob h
  refine vu_i hP (vu_V S hF hP (h := 26) (hlt _ (by decide)) rfl (by decide) rfl (c_X6_isLine l P hA hn w x1 hq1) ok_X6_isLine ml_X6_155 ⟨Nat.le_of_ble_eq_true rfl, Nat.le_of_ble_eq_true rfl⟩ rfl hl.1 rfl (Nat.le_of_ble_eq_true rfl) dX6_lineText_2 ⟨Nat.le_of_ble_eq_true rfl, Nat.le_of_ble_eq_true rfl⟩) (fun H locs ho2 hP => ?_)
  refine lv_if_ne (tgt := 14) hx hb dX6_lineText_5 (by decide) (fun c22 => ?_) (fun c22 => ?_)
  · rw [if_neg c22] at h
    refine lv_aload_n hx hb dX6_lineText_14 rfl (lv_at hl 0 rfl) ?_
    refine lv_iconst (v := 0) hx hb dX6_lineText_15 (by decide) ?_
    refine vt_putI S hF hP (k := 13) (ci := 6) 26 (hlt _ (by decide)) rfl (by decide) rfl (by decide) rfl tyX6 tyX6_ok nmX6 rfl rfl rfl rfl (by decide) (inC_X6 _) (List.mem_cons_of_mem _ fl_X6_223) dX6_lineText_16 (fun H locs hP => ?_)
    exact hB19 _ _ h _ _ _ hP (lv_sub hl [0, 1] rfl)
  · rw [if_pos c22] at h
    refine lv_aload_n hx hb dX6_lineText_8 rfl (lv_at hl 0 rfl) ?_
    refine lv_iconst (v := 1) hx hb dX6_lineText_9 (by decide) ?_
    obtain ⟨q15, hq15, h⟩ := ob h
    refine vu_i hP (vu_V S hF hP (h := 26) (hlt _ (by decide)) rfl (by decide) rfl (c_X6_fails l P hA hn w 1 hq15) ok_X6_fails ml_X6_77 ⟨Nat.le_of_ble_eq_true rfl, Nat.le_of_ble_eq_true rfl⟩ rfl hl.1 rfl (Nat.le_of_ble_eq_true rfl) dX6_lineText_10 ⟨Nat.le_of_ble_eq_true rfl, Nat.le_of_ble_eq_true rfl⟩) (fun H locs ho16 hP => ?_)
    obtain rfl := Option.some.inj h
    exact ve_i (v := q15.1) S hF hP hr hk rfl dX6_lineText_13
set_option maxRecDepth 100000 in
set_option maxHeartbeats 4000000 in
theorem c_X6_character (l : Launch) (P : Pl) (hA : Adr P) (hn : 36 ≤ P.2.2.2.1) (w : Wo) (x1 : Int32) {r : Int32 × Wo} (h : F_X6_character w x1 = some r) : CtI l P yX6_character cX6_character 2 (some .char) 1 [.ref (P.2.1 26), .int x1] w r.1 r.2 := by
  have hlt : ∀ h, h < 36 → h < P.2.2.2.1 := fun h q => Nat.lt_of_lt_of_le q hn
  refine vs_met hA (by decide +kernel) (Nat.le_of_ble_eq_true rfl) (fun p e s m args below meth c ls S hF hP hl hr hk => ?_)
  have hx := S.1
  have hb := S.2.1
  replace hl : lv_has ls 2 [(0, .ref (P.2.1 26)), (1, .int x1)] := hl
  have hB23 : ∀ (w : Wo) (x1 : Int32), B_X6_character_23 w x1 = some r → ∀ (H : Heap) (locs : List Loc) (ls : Array Slot), St P s w H locs → lv_has ls 2 [(0, .ref (P.2.1 26)), (1, .int x1)] → W p l e (rmU 1 0 0) s m args below meth c H locs 0 0 (QI P (some .char) r.1 r.2 below args s) (F0 m 23 ls []) := by
    intro w x1 h H locs ls hP hl
    unfold B_X6_character_23 at h
    refine lv_aload_n hx hb dX6_character_23 rfl (lv_at hl 0 rfl) ?_
    refine vt_getI S hF hP (k := 14) (ci := 6) 26 (hlt _ (by decide)) rfl (by decide) rfl (by decide) rfl (inC_X6 _) (List.mem_cons_of_mem _ fl_X6_46) dX6_character_24 ?_
    refine lv_if_ne (tgt := 39) hx hb dX6_character_27 (by decide) (fun c2 => ?_) (fun c2 => ?_)
    · rw [if_neg c2] at h
      refine lv_iconst (v := 0) hx hb dX6_character_39 (by decide) ?_
      obtain rfl := Option.some.inj h
      exact ve_i (v := 0) S hF hP hr hk rfl dX6_character_40
    · rw [if_pos c2] at h
      refine lv_aload_n hx hb dX6_character_30 rfl (lv_at hl 0 rfl) ?_
      refine vt_getR (r := 32) S hF hP (k := 12) (ci := 6) 26 (hlt _ (by decide)) rfl (by decide) rfl (by decide) rfl rfl (inC_X6 _) (List.mem_cons_of_mem _ fl_X6_30) dX6_character_31 ?_
      refine lv_iload_n hx hb dX6_character_34 rfl (lv_at hl 1 rfl) ?_
      obtain ⟨c3, h⟩ := chk h
      refine vt_cald S hF hP (hlt _ (by decide)) rfl c3 dX6_character_35 ?_
      refine lv_goto (tgt := 40) hx hb dX6_character_36 (by decide) ?_
      obtain ⟨c4, h⟩ := chk h
      obtain rfl := Option.some.inj h
      exact ve_i (v := (gI w 32 (Int32.toNatClampNeg x1))) S hF hP hr hk (nar_c c4) dX6_character_40
  have hB20 : ∀ (w : Wo) (x1 : Int32) (t0 : Int32), B_X6_character_20 w x1 t0 = some r → ∀ (H : Heap) (locs : List Loc) (ls : Array Slot), St P s w H locs → lv_has ls 2 [(0, .ref (P.2.1 26)), (1, .int x1)] → W p l e (rmU 1 0 0) s m args below meth c H locs 0 0 (QI P (some .char) r.1 r.2 below args s) (F0 m 20 ls [.int t0, .ref (P.2.1 26)]) := by
    intro w x1 t0 h H locs ls hP hl
    unfold B_X6_character_20 at h
    refine vt_putI S hF hP (k := 14) (ci := 6) 26 (hlt _ (by decide)) rfl (by decide) rfl (by decide) rfl tyX6 tyX6_ok nmX6 rfl rfl rfl rfl (by decide) (inC_X6 _) (List.mem_cons_of_mem _ fl_X6_46) dX6_character_20 (fun H locs hP => ?_)
    exact hB23 _ _ h _ _ _ hP (lv_sub hl [0, 1] rfl)
  unfold F_X6_character at h
  refine lv_aload_n hx hb dX6_character_0 rfl (lv_at hl 0 rfl) ?_
  refine lv_iload_n hx hb dX6_character_1 rfl (lv_at hl 1 rfl) ?_
  refine lv_iconst (v := 0) hx hb dX6_character_2 (by decide) ?_
  refine lv_aload_n hx hb dX6_character_3 rfl (lv_at hl 0 rfl) ?_
  refine vt_getI S hF hP (k := 13) (ci := 6) 26 (hlt _ (by decide)) rfl (by decide) rfl (by decide) rfl (inC_X6 _) (List.mem_cons_of_mem _ fl_X6_223) dX6_character_4 ?_
  refine lv_iconst (v := 1) hx hb dX6_character_7 (by decide) ?_
  refine lv_isub hx hb dX6_character_8 ?_
  refine vu_i hP (vu_S S hF hP (c_X6_in l P hA hn w x1 0 ((gI w 26 13) - (1 : Int32))) ok_X6_in ml_X6_70 ⟨Nat.le_of_ble_eq_true rfl, Nat.le_of_ble_eq_true rfl⟩ rfl hl.1 rfl (Nat.le_of_ble_eq_true rfl) dX6_character_9 ⟨Nat.le_of_ble_eq_true rfl, Nat.le_of_ble_eq_true rfl⟩) (fun H locs ho1 hP => ?_)
  refine lv_if_eq (tgt := 19) hx hb dX6_character_12 (by decide) (fun c5 => ?_) (fun c5 => ?_)
  · rw [if_pos c5] at h
    refine lv_iconst (v := 1) hx hb dX6_character_19 (by decide) ?_
    exact hB20 _ _ _ h _ _ _ hP (lv_sub hl [0, 1] rfl)
  · rw [if_neg c5] at h
    refine lv_iconst (v := 0) hx hb dX6_character_15 (by decide) ?_
    refine lv_goto (tgt := 20) hx hb dX6_character_16 (by decide) ?_
    exact hB20 _ _ _ h _ _ _ hP (lv_sub hl [0, 1] rfl)
set_option maxRecDepth 100000 in
set_option maxHeartbeats 4000000 in
theorem c_X6_append (l : Launch) (P : Pl) (hA : Adr P) (hn : 36 ≤ P.2.2.2.1) (w : Wo) (x1 : Int32) {r : Int32 × Wo} (h : F_X6_append w x1 = some r) : CtI l P yX6_append cX6_append 2 (some .int) 1 [.ref (P.2.1 26), .int x1] w r.1 r.2 := by
  have hlt : ∀ h, h < 36 → h < P.2.2.2.1 := fun h q => Nat.lt_of_lt_of_le q hn
  refine vs_met hA (by decide +kernel) (Nat.le_of_ble_eq_true rfl) (fun p e s m args below meth c ls S hF hP hl hr hk => ?_)
  have hx := S.1
  have hb := S.2.1
  replace hl : lv_has ls 2 [(0, .ref (P.2.1 26)), (1, .int x1)] := hl
  have hB35 : ∀ (w : Wo), B_X6_append_35 w = some r → ∀ (H : Heap) (locs : List Loc) (ls : Array Slot), St P s w H locs → lv_has ls 2 [(0, .ref (P.2.1 26))] → W p l e (rmU 1 0 0) s m args below meth c H locs 0 0 (QI P (some .int) r.1 r.2 below args s) (F0 m 35 ls []) := by
    intro w h H locs ls hP hl
    unfold B_X6_append_35 at h
    refine lv_aload_n hx hb dX6_append_35 rfl (lv_at hl 0 rfl) ?_
    refine lv_aload_n hx hb dX6_append_36 rfl (lv_at hl 0 rfl) ?_
    refine vt_getI S hF hP (k := 7) (ci := 6) 26 (hlt _ (by decide)) rfl (by decide) rfl (by decide) rfl (inC_X6 _) (List.mem_cons_of_mem _ fl_X6_232) dX6_append_37 ?_
    obtain ⟨q1, hq1, h⟩ := ob h
    refine vu_i hP (vu_V S hF hP (h := 26) (hlt _ (by decide)) rfl (by decide) rfl (c_X6_done l P hA hn w (gI w 26 7) hq1) ok_X6_done ml_X6_81 ⟨Nat.le_of_ble_eq_true rfl, Nat.le_of_ble_eq_true rfl⟩ rfl hl.1 rfl (Nat.le_of_ble_eq_true rfl) dX6_append_40 ⟨Nat.le_of_ble_eq_true rfl, Nat.le_of_ble_eq_true rfl⟩) (fun H locs ho2 hP => ?_)
    obtain rfl := Option.some.inj h
    exact ve_i (v := q1.1) S hF hP hr hk rfl dX6_append_43
  have hB25 : ∀ (w : Wo), B_X6_append_25 w = some r → ∀ (H : Heap) (locs : List Loc) (ls : Array Slot), St P s w H locs → lv_has ls 2 [(0, .ref (P.2.1 26))] → W p l e (rmU 1 0 0) s m args below meth c H locs 0 0 (QI P (some .int) r.1 r.2 below args s) (F0 m 25 ls []) := by
    intro w h H locs ls hP hl
    unfold B_X6_append_25 at h
    refine lv_aload_n hx hb dX6_append_25 rfl (lv_at hl 0 rfl) ?_
    refine lv_dup hx hb dX6_append_26 rfl ?_
    refine vt_getI S hF hP (k := 7) (ci := 6) 26 (hlt _ (by decide)) rfl (by decide) rfl (by decide) rfl (inC_X6 _) (List.mem_cons_of_mem _ fl_X6_232) dX6_append_27 ?_
    refine lv_iconst (v := 1) hx hb dX6_append_30 (by decide) ?_
    refine lv_iadd hx hb dX6_append_31 ?_
    refine vt_putI S hF hP (k := 7) (ci := 6) 26 (hlt _ (by decide)) rfl (by decide) rfl (by decide) rfl tyX6 tyX6_ok nmX6 rfl rfl rfl rfl (by decide) (inC_X6 _) (List.mem_cons_of_mem _ fl_X6_232) dX6_append_32 (fun H locs hP => ?_)
    exact hB35 _ h _ _ _ hP (lv_sub hl [0] rfl)
  unfold F_X6_append at h
  refine lv_aload_n hx hb dX6_append_0 rfl (lv_at hl 0 rfl) ?_
  refine vt_getI S hF hP (k := 7) (ci := 6) 26 (hlt _ (by decide)) rfl (by decide) rfl (by decide) rfl (inC_X6 _) (List.mem_cons_of_mem _ fl_X6_232) dX6_append_1 ?_
  refine lv_bipush (v := 60) hx hb dX6_append_4 (by decide) ?_
  refine lv_icmp_ne (tgt := 15) hx hb dX6_append_6 (by decide) (fun c5 => ?_) (fun c5 => ?_)
  · rw [if_neg c5] at h
    refine lv_aload_n hx hb dX6_append_15 rfl (lv_at hl 0 rfl) ?_
    refine vt_getR (r := 31) S hF hP (k := 6) (ci := 6) 26 (hlt _ (by decide)) rfl (by decide) rfl (by decide) rfl rfl (inC_X6 _) (List.mem_cons_of_mem _ fl_X6_22) dX6_append_16 ?_
    refine lv_aload_n hx hb dX6_append_19 rfl (lv_at hl 0 rfl) ?_
    refine vt_getI S hF hP (k := 7) (ci := 6) 26 (hlt _ (by decide)) rfl (by decide) rfl (by decide) rfl (inC_X6 _) (List.mem_cons_of_mem _ fl_X6_232) dX6_append_20 ?_
    refine lv_iload_n hx hb dX6_append_23 rfl (lv_at hl 1 rfl) ?_
    obtain ⟨c6, h⟩ := chk h
    refine vt_cast S hF hP (hlt _ (by decide)) rfl c6 dX6_append_24 (fun H locs hP => ?_)
    exact hB25 _ h _ _ _ hP (lv_sub hl [0] rfl)
  · rw [if_pos c5] at h
    refine lv_aload_n hx hb dX6_append_9 rfl (lv_at hl 0 rfl) ?_
    refine lv_iconst (v := 1) hx hb dX6_append_10 (by decide) ?_
    obtain ⟨q3, hq3, h⟩ := ob h
    refine vu_i hP (vu_V S hF hP (h := 26) (hlt _ (by decide)) rfl (by decide) rfl (c_X6_fails l P hA hn w 1 hq3) ok_X6_fails ml_X6_77 ⟨Nat.le_of_ble_eq_true rfl, Nat.le_of_ble_eq_true rfl⟩ rfl hl.1 rfl (Nat.le_of_ble_eq_true rfl) dX6_append_11 ⟨Nat.le_of_ble_eq_true rfl, Nat.le_of_ble_eq_true rfl⟩) (fun H locs ho4 hP => ?_)
    obtain rfl := Option.some.inj h
    exact ve_i (v := q3.1) S hF hP hr hk rfl dX6_append_14
set_option maxRecDepth 100000 in
set_option maxHeartbeats 4000000 in
theorem c_X6_here (l : Launch) (P : Pl) (hA : Adr P) (hn : 36 ≤ P.2.2.2.1) (w : Wo) {r : Int32} (h : F_X6_here w = some r) : CtI l P yX6_here cX6_here 1 (some .int) 0 [.ref (P.2.1 26)] w r w := by
  have hlt : ∀ h, h < 36 → h < P.2.2.2.1 := fun h q => Nat.lt_of_lt_of_le q hn
  refine vs_met hA (by decide +kernel) (Nat.le_of_ble_eq_true rfl) (fun p e s m args below meth c ls S hF hP hl hr hk => ?_)
  have hx := S.1
  have hb := S.2.1
  replace hl : lv_has ls 1 [(0, .ref (P.2.1 26))] := hl
  unfold F_X6_here at h
  refine lv_aload_n hx hb dX6_here_0 rfl (lv_at hl 0 rfl) ?_
  refine vt_getI S hF hP (k := 18) (ci := 6) 26 (hlt _ (by decide)) rfl (by decide) rfl (by decide) rfl (inC_X6 _) (List.mem_cons_of_mem _ fl_X6_235) dX6_here_1 ?_
  refine lv_aload_n hx hb dX6_here_4 rfl (lv_at hl 0 rfl) ?_
  refine vt_getI S hF hP (k := 7) (ci := 6) 26 (hlt _ (by decide)) rfl (by decide) rfl (by decide) rfl (inC_X6 _) (List.mem_cons_of_mem _ fl_X6_232) dX6_here_5 ?_
  refine lv_icmp_ge (tgt := 23) hx hb dX6_here_8 (by decide) (fun c1 => ?_) (fun c1 => ?_)
  · rw [if_pos c1] at h
    refine lv_iconst (v := (-1)) hx hb dX6_here_23 (by decide) ?_
    obtain rfl := Option.some.inj h
    exact ve_i (v := (-1)) S hF hP hr hk rfl dX6_here_24
  · rw [if_neg c1] at h
    refine lv_aload_n hx hb dX6_here_11 rfl (lv_at hl 0 rfl) ?_
    refine vt_getR (r := 31) S hF hP (k := 6) (ci := 6) 26 (hlt _ (by decide)) rfl (by decide) rfl (by decide) rfl rfl (inC_X6 _) (List.mem_cons_of_mem _ fl_X6_22) dX6_here_12 ?_
    refine lv_aload_n hx hb dX6_here_15 rfl (lv_at hl 0 rfl) ?_
    refine vt_getI S hF hP (k := 18) (ci := 6) 26 (hlt _ (by decide)) rfl (by decide) rfl (by decide) rfl (inC_X6 _) (List.mem_cons_of_mem _ fl_X6_235) dX6_here_16 ?_
    obtain ⟨c2, h⟩ := chk h
    refine vt_cald S hF hP (hlt _ (by decide)) rfl c2 dX6_here_19 ?_
    refine lv_goto (tgt := 24) hx hb dX6_here_20 (by decide) ?_
    obtain rfl := Option.some.inj h
    exact ve_i (v := (gI w 31 (Int32.toNatClampNeg (gI w 26 18)))) S hF hP hr hk rfl dX6_here_24
set_option maxRecDepth 100000 in
set_option maxHeartbeats 4000000 in
theorem c_X6_needs (l : Launch) (P : Pl) (hA : Adr P) (hn : 36 ≤ P.2.2.2.1) (w : Wo) (x1 : Int32) {r : Wo} (h : F_X6_needs w x1 = some r) : CtV l P yX6_needs cX6_needs 2 none 1 [.ref (P.2.1 26), .int x1] w r := by
  have hlt : ∀ h, h < 36 → h < P.2.2.2.1 := fun h q => Nat.lt_of_lt_of_le q hn
  refine vs_met hA (by decide +kernel) (Nat.le_of_ble_eq_true rfl) (fun p e s m args below meth c ls S hF hP hl hr hk => ?_)
  have hx := S.1
  have hb := S.2.1
  replace hl : lv_has ls 2 [(0, .ref (P.2.1 26)), (1, .int x1)] := hl
  have hB41 : ∀ (w : Wo) (t0 : Int32) (t1 : Int32), B_X6_needs_41 w t0 t1 = some r → ∀ (H : Heap) (locs : List Loc) (ls : Array Slot), St P s w H locs → lv_has ls 2 [] → W p l e (rmU 1 0 0) s m args below meth c H locs 0 0 (QV P r below args s) (F0 m 41 ls [.int t0, .int t1, .ref (P.2.1 26)]) := by
    intro w t0 t1 h H locs ls hP hl
    unfold B_X6_needs_41 at h
    refine lv_iadd hx hb dX6_needs_41 ?_
    refine vt_putI S hF hP (k := 18) (ci := 6) 26 (hlt _ (by decide)) rfl (by decide) rfl (by decide) rfl tyX6 tyX6_ok nmX6 rfl rfl rfl rfl (by decide) (inC_X6 _) (List.mem_cons_of_mem _ fl_X6_235) dX6_needs_42 (fun H locs hP => ?_)
    obtain rfl := Option.some.inj h
    exact ve_v S hF hP hr hk dX6_needs_45
  have hB24 : ∀ (w : Wo), B_X6_needs_24 w = some r → ∀ (H : Heap) (locs : List Loc) (ls : Array Slot), St P s w H locs → lv_has ls 2 [(0, .ref (P.2.1 26))] → W p l e (rmU 1 0 0) s m args below meth c H locs 0 0 (QV P r below args s) (F0 m 24 ls []) := by
    intro w h H locs ls hP hl
    unfold B_X6_needs_24 at h
    refine lv_aload_n hx hb dX6_needs_24 rfl (lv_at hl 0 rfl) ?_
    refine lv_dup hx hb dX6_needs_25 rfl ?_
    refine vt_getI S hF hP (k := 18) (ci := 6) 26 (hlt _ (by decide)) rfl (by decide) rfl (by decide) rfl (inC_X6 _) (List.mem_cons_of_mem _ fl_X6_235) dX6_needs_26 ?_
    refine lv_aload_n hx hb dX6_needs_29 rfl (lv_at hl 0 rfl) ?_
    refine vt_getI S hF hP (k := 19) (ci := 6) 26 (hlt _ (by decide)) rfl (by decide) rfl (by decide) rfl (inC_X6 _) (List.mem_cons_of_mem _ fl_X6_238) dX6_needs_30 ?_
    refine lv_if_eq (tgt := 40) hx hb dX6_needs_33 (by decide) (fun c3 => ?_) (fun c3 => ?_)
    · rw [if_pos c3] at h
      refine lv_iconst (v := 1) hx hb dX6_needs_40 (by decide) ?_
      exact hB41 _ _ _ h _ _ _ hP (lv_sub hl [] rfl)
    · rw [if_neg c3] at h
      refine lv_iconst (v := 0) hx hb dX6_needs_36 (by decide) ?_
      refine lv_goto (tgt := 41) hx hb dX6_needs_37 (by decide) ?_
      exact hB41 _ _ _ h _ _ _ hP (lv_sub hl [] rfl)
  have hB21 : ∀ (w : Wo) (t0 : Int32), B_X6_needs_21 w t0 = some r → ∀ (H : Heap) (locs : List Loc) (ls : Array Slot), St P s w H locs → lv_has ls 2 [(0, .ref (P.2.1 26))] → W p l e (rmU 1 0 0) s m args below meth c H locs 0 0 (QV P r below args s) (F0 m 21 ls [.int t0, .ref (P.2.1 26)]) := by
    intro w t0 h H locs ls hP hl
    unfold B_X6_needs_21 at h
    obtain ⟨c4, h⟩ := chk h
    refine vt_putI S hF hP (k := 19) (ci := 6) 26 (hlt _ (by decide)) rfl (by decide) rfl (by decide) rfl tyX6 tyX6_ok nmX6 rfl rfl (nar_z c4) (fit_z c4) (by decide) (inC_X6 _) (List.mem_cons_of_mem _ fl_X6_238) dX6_needs_21 (fun H locs hP => ?_)
    exact hB24 _ h _ _ _ hP (lv_sub hl [0] rfl)
  have hB16 : ∀ (w : Wo), B_X6_needs_16 w = some r → ∀ (H : Heap) (locs : List Loc) (ls : Array Slot), St P s w H locs → lv_has ls 2 [(0, .ref (P.2.1 26))] → W p l e (rmU 1 0 0) s m args below meth c H locs 0 0 (QV P r below args s) (F0 m 16 ls [.ref (P.2.1 26)]) := by
    intro w h H locs ls hP hl
    unfold B_X6_needs_16 at h
    refine lv_iconst (v := 1) hx hb dX6_needs_16 (by decide) ?_
    refine lv_goto (tgt := 21) hx hb dX6_needs_17 (by decide) ?_
    exact hB21 _ _ h _ _ _ hP (lv_sub hl [0] rfl)
  unfold F_X6_needs at h
  refine lv_aload_n hx hb dX6_needs_0 rfl (lv_at hl 0 rfl) ?_
  refine lv_aload_n hx hb dX6_needs_1 rfl (lv_at hl 0 rfl) ?_
  refine vt_getI S hF hP (k := 19) (ci := 6) 26 (hlt _ (by decide)) rfl (by decide) rfl (by decide) rfl (inC_X6 _) (List.mem_cons_of_mem _ fl_X6_238) dX6_needs_2 ?_
  refine lv_if_ne (tgt := 16) hx hb dX6_needs_5 (by decide) (fun c5 => ?_) (fun c5 => ?_)
  · rw [if_neg c5] at h
    exact hB16 _ h _ _ _ hP (lv_sub hl [0] rfl)
  · rw [if_pos c5] at h
    refine lv_aload_n hx hb dX6_needs_8 rfl (lv_at hl 0 rfl) ?_
    obtain ⟨q1, hq1, h⟩ := ob h
    refine vu_i hP (vu_V S hF hP (h := 26) (hlt _ (by decide)) rfl (by decide) rfl (c_X6_here l P hA hn w hq1) ok_X6_here ml_X6_241 ⟨Nat.le_of_ble_eq_true rfl, Nat.le_of_ble_eq_true rfl⟩ rfl hl.1 rfl (Nat.le_of_ble_eq_true rfl) dX6_needs_9 ⟨Nat.le_of_ble_eq_true rfl, Nat.le_of_ble_eq_true rfl⟩) (fun H locs ho2 hP => ?_)
    refine lv_iload_n hx hb dX6_needs_12 rfl (lv_at hl 1 rfl) ?_
    refine lv_icmp_eq (tgt := 20) hx hb dX6_needs_13 (by decide) (fun c6 => ?_) (fun c6 => ?_)
    · rw [if_pos c6] at h
      refine lv_iconst (v := 0) hx hb dX6_needs_20 (by decide) ?_
      exact hB21 _ _ h _ _ _ hP (lv_sub hl [0] rfl)
    · rw [if_neg c6] at h
      exact hB16 _ h _ _ _ hP (lv_sub hl [0] rfl)
set_option maxRecDepth 100000 in
set_option maxHeartbeats 4000000 in
theorem c_X6_figures (l : Launch) (P : Pl) (hA : Adr P) (hn : 36 ≤ P.2.2.2.1) (w : Wo) (x1 : Int32) {r : Int32 × Wo} (h : F_X6_figures w x1 = some r) : CtI l P yX6_figures cX6_figures 4 (some .int) 1 [.ref (P.2.1 26), .int x1] w r.1 r.2 := by
  have hlt : ∀ h, h < 36 → h < P.2.2.2.1 := fun h q => Nat.lt_of_lt_of_le q hn
  refine vs_met hA (by decide +kernel) (Nat.le_of_ble_eq_true rfl) (fun p e s m args below meth c ls S hF hP hl hr hk => ?_)
  have hx := S.1
  have hb := S.2.1
  replace hl : lv_has ls 4 [(0, .ref (P.2.1 26)), (1, .int x1)] := hl
  have hL34 : ∀ (x1 : Int32) (n : Nat) (w : Wo) (x2 : Int32) (x3 : Int32), jl3 (B_X6_figures_34 x1) n w x2 x3 = some r → ∀ (H : Heap) (locs : List Loc) (ls : Array Slot), St P s w H locs → lv_has ls 4 [(0, .ref (P.2.1 26)), (1, .int x1), (2, .int x2), (3, .int x3)] → W p l e (rmU 1 0 0) s m args below meth c H locs 0 0 (QI P (some .int) r.1 r.2 below args s) (F0 m 34 ls []) := by
    intro x1
    intro n
    induction n with
    | zero =>
      intro w x2 x3 h
      cases h
    | succ n ih34 =>
      intro w x2 x3 h H locs ls hP hl
      replace h : B_X6_figures_34 x1 (jl3 (B_X6_figures_34 x1) n) w x2 x3 = some r := h
      revert h ih34
      generalize jl3 (B_X6_figures_34 x1) n = k34
      intro ih34 h
      have hB83 : ∀ (w : Wo) (x2 : Int32) (x3 : Int32), B_X6_figures_83 k34 w x1 x2 x3 = some r → ∀ (H : Heap) (locs : List Loc) (ls : Array Slot), St P s w H locs → lv_has ls 4 [(0, .ref (P.2.1 26)), (1, .int x1), (2, .int x2), (3, .int x3)] → W p l e (rmU 1 0 0) s m args below meth c H locs 0 0 (QI P (some .int) r.1 r.2 below args s) (F0 m 83 ls []) := by
        intro w x2 x3 h H locs ls hP hl
        unfold B_X6_figures_83 at h
        refine lv_iinc (v := (x3 + 1)) (lv' := [(3, .int (x3 + 1)), (0, .ref (P.2.1 26)), (1, .int x1), (2, .int x2)]) hx hb dX6_figures_83 hl (k := 3) rfl rfl (by decide) rfl (fun ls hl => ?_)
        refine lv_goto (tgt := 34) hx hb dX6_figures_86 (by decide) ?_
        exact ih34 _ _ _ h _ _ _ hP (lv_sub hl [1, 2, 3, 0] rfl)
      have hB73 : ∀ (w : Wo) (x2 : Int32) (x3 : Int32), B_X6_figures_73 k34 w x1 x2 x3 = some r → ∀ (H : Heap) (locs : List Loc) (ls : Array Slot), St P s w H locs → lv_has ls 4 [(0, .ref (P.2.1 26)), (1, .int x1), (2, .int x2), (3, .int x3)] → W p l e (rmU 1 0 0) s m args below meth c H locs 0 0 (QI P (some .int) r.1 r.2 below args s) (F0 m 73 ls []) := by
        intro w x2 x3 h H locs ls hP hl
        unfold B_X6_figures_73 at h
        refine lv_aload_n hx hb dX6_figures_73 rfl (lv_at hl 0 rfl) ?_
        refine lv_dup hx hb dX6_figures_74 rfl ?_
        refine vt_getI S hF hP (k := 18) (ci := 6) 26 (hlt _ (by decide)) rfl (by decide) rfl (by decide) rfl (inC_X6 _) (List.mem_cons_of_mem _ fl_X6_235) dX6_figures_75 ?_
        refine lv_iconst (v := 1) hx hb dX6_figures_78 (by decide) ?_
        refine lv_iadd hx hb dX6_figures_79 ?_
        refine vt_putI S hF hP (k := 18) (ci := 6) 26 (hlt _ (by decide)) rfl (by decide) rfl (by decide) rfl tyX6 tyX6_ok nmX6 rfl rfl rfl rfl (by decide) (inC_X6 _) (List.mem_cons_of_mem _ fl_X6_235) dX6_figures_80 (fun H locs hP => ?_)
        exact hB83 _ _ _ h _ _ _ hP (lv_sub hl [0, 1, 2, 3] rfl)
      unfold B_X6_figures_34 at h
      refine lv_aload_n hx hb dX6_figures_34 rfl (lv_at hl 0 rfl) ?_
      refine vt_getI S hF hP (k := 19) (ci := 6) 26 (hlt _ (by decide)) rfl (by decide) rfl (by decide) rfl (inC_X6 _) (List.mem_cons_of_mem _ fl_X6_238) dX6_figures_35 ?_
      refine lv_if_ne (tgt := 89) hx hb dX6_figures_38 (by decide) (fun c9 => ?_) (fun c9 => ?_)
      · rw [if_neg c9] at h
        refine lv_iload_n hx hb dX6_figures_89 rfl (lv_at hl 2 rfl) ?_
        obtain rfl := Option.some.inj h
        exact ve_i (v := x2) S hF hP hr hk rfl dX6_figures_90
      · rw [if_pos c9] at h
        refine lv_iload_n hx hb dX6_figures_41 rfl (lv_at hl 3 rfl) ?_
        refine lv_iload_n hx hb dX6_figures_42 rfl (lv_at hl 1 rfl) ?_
        refine lv_icmp_ge (tgt := 89) hx hb dX6_figures_43 (by decide) (fun c10 => ?_) (fun c10 => ?_)
        · rw [if_pos c10] at h
          refine lv_iload_n hx hb dX6_figures_89 rfl (lv_at hl 2 rfl) ?_
          obtain rfl := Option.some.inj h
          exact ve_i (v := x2) S hF hP hr hk rfl dX6_figures_90
        · rw [if_neg c10] at h
          refine lv_aload_n hx hb dX6_figures_46 rfl (lv_at hl 0 rfl) ?_
          obtain ⟨q1, hq1, h⟩ := ob h
          refine vu_i hP (vu_V S hF hP (h := 26) (hlt _ (by decide)) rfl (by decide) rfl (c_X6_here l P hA hn w hq1) ok_X6_here ml_X6_241 ⟨Nat.le_of_ble_eq_true rfl, Nat.le_of_ble_eq_true rfl⟩ rfl hl.1 rfl (Nat.le_of_ble_eq_true rfl) dX6_figures_47 ⟨Nat.le_of_ble_eq_true rfl, Nat.le_of_ble_eq_true rfl⟩) (fun H locs ho2 hP => ?_)
          refine lv_bipush (v := 48) hx hb dX6_figures_50 (by decide) ?_
          refine lv_bipush (v := 57) hx hb dX6_figures_52 (by decide) ?_
          refine vu_i hP (vu_S S hF hP (c_X6_in l P hA hn w q1 48 57) ok_X6_in ml_X6_70 ⟨Nat.le_of_ble_eq_true rfl, Nat.le_of_ble_eq_true rfl⟩ rfl hl.1 rfl (Nat.le_of_ble_eq_true rfl) dX6_figures_54 ⟨Nat.le_of_ble_eq_true rfl, Nat.le_of_ble_eq_true rfl⟩) (fun H locs ho3 hP => ?_)
          refine lv_if_eq (tgt := 89) hx hb dX6_figures_57 (by decide) (fun c11 => ?_) (fun c11 => ?_)
          · rw [if_pos c11] at h
            refine lv_iload_n hx hb dX6_figures_89 rfl (lv_at hl 2 rfl) ?_
            obtain rfl := Option.some.inj h
            exact ve_i (v := x2) S hF hP hr hk rfl dX6_figures_90
          · rw [if_neg c11] at h
            refine lv_bipush (v := 10) hx hb dX6_figures_60 (by decide) ?_
            refine lv_iload_n hx hb dX6_figures_62 rfl (lv_at hl 2 rfl) ?_
            refine lv_imul hx hb dX6_figures_63 ?_
            refine lv_aload_n hx hb dX6_figures_64 rfl (lv_at hl 0 rfl) ?_
            obtain ⟨q4, hq4, h⟩ := ob h
            refine vu_i hP (vu_V S hF hP (h := 26) (hlt _ (by decide)) rfl (by decide) rfl (c_X6_here l P hA hn w hq4) ok_X6_here ml_X6_241 ⟨Nat.le_of_ble_eq_true rfl, Nat.le_of_ble_eq_true rfl⟩ rfl hl.1 rfl (Nat.le_of_ble_eq_true rfl) dX6_figures_65 ⟨Nat.le_of_ble_eq_true rfl, Nat.le_of_ble_eq_true rfl⟩) (fun H locs ho5 hP => ?_)
            refine lv_iadd hx hb dX6_figures_68 ?_
            refine lv_bipush (v := 48) hx hb dX6_figures_69 (by decide) ?_
            refine lv_isub hx hb dX6_figures_71 ?_
            refine lv_istore_n (lv' := [(2, .int ((((10 : Int32) * x2) + q4) - (48 : Int32))), (0, .ref (P.2.1 26)), (1, .int x1), (3, .int x3)]) hx hb dX6_figures_72 rfl hl (by decide) rfl (fun ls hl => ?_)
            exact hB73 _ _ _ h _ _ _ hP (lv_sub hl [1, 2, 0, 3] rfl)
  have hB30 : ∀ (w : Wo) (x1 : Int32), B_X6_figures_30 w x1 = some r → ∀ (H : Heap) (locs : List Loc) (ls : Array Slot), St P s w H locs → lv_has ls 4 [(0, .ref (P.2.1 26)), (1, .int x1)] → W p l e (rmU 1 0 0) s m args below meth c H locs 0 0 (QI P (some .int) r.1 r.2 below args s) (F0 m 30 ls []) := by
    intro w x1 h H locs ls hP hl
    unfold B_X6_figures_30 at h
    refine lv_iconst (v := 0) hx hb dX6_figures_30 (by decide) ?_
    refine lv_istore_n (lv' := [(2, .int 0), (0, .ref (P.2.1 26)), (1, .int x1)]) hx hb dX6_figures_31 rfl hl (by decide) rfl (fun ls hl => ?_)
    refine lv_iconst (v := 0) hx hb dX6_figures_32 (by decide) ?_
    refine lv_istore_n (lv' := [(3, .int 0), (2, .int 0), (0, .ref (P.2.1 26)), (1, .int x1)]) hx hb dX6_figures_33 rfl hl (by decide) rfl (fun ls hl => ?_)
    exact hL34 _ fu _ _ _ h _ _ _ hP (lv_sub hl [2, 3, 1, 0] rfl)
  have hB27 : ∀ (w : Wo) (x1 : Int32) (t0 : Int32), B_X6_figures_27 w x1 t0 = some r → ∀ (H : Heap) (locs : List Loc) (ls : Array Slot), St P s w H locs → lv_has ls 4 [(0, .ref (P.2.1 26)), (1, .int x1)] → W p l e (rmU 1 0 0) s m args below meth c H locs 0 0 (QI P (some .int) r.1 r.2 below args s) (F0 m 27 ls [.int t0, .ref (P.2.1 26)]) := by
    intro w x1 t0 h H locs ls hP hl
    unfold B_X6_figures_27 at h
    obtain ⟨c12, h⟩ := chk h
    refine vt_putI S hF hP (k := 19) (ci := 6) 26 (hlt _ (by decide)) rfl (by decide) rfl (by decide) rfl tyX6 tyX6_ok nmX6 rfl rfl (nar_z c12) (fit_z c12) (by decide) (inC_X6 _) (List.mem_cons_of_mem _ fl_X6_238) dX6_figures_27 (fun H locs hP => ?_)
    exact hB30 _ _ h _ _ _ hP (lv_sub hl [0, 1] rfl)
  have hB22 : ∀ (w : Wo) (x1 : Int32), B_X6_figures_22 w x1 = some r → ∀ (H : Heap) (locs : List Loc) (ls : Array Slot), St P s w H locs → lv_has ls 4 [(0, .ref (P.2.1 26)), (1, .int x1)] → W p l e (rmU 1 0 0) s m args below meth c H locs 0 0 (QI P (some .int) r.1 r.2 below args s) (F0 m 22 ls [.ref (P.2.1 26)]) := by
    intro w x1 h H locs ls hP hl
    unfold B_X6_figures_22 at h
    refine lv_iconst (v := 1) hx hb dX6_figures_22 (by decide) ?_
    refine lv_goto (tgt := 27) hx hb dX6_figures_23 (by decide) ?_
    exact hB27 _ _ _ h _ _ _ hP (lv_sub hl [0, 1] rfl)
  unfold F_X6_figures at h
  refine lv_aload_n hx hb dX6_figures_0 rfl (lv_at hl 0 rfl) ?_
  refine lv_aload_n hx hb dX6_figures_1 rfl (lv_at hl 0 rfl) ?_
  refine vt_getI S hF hP (k := 19) (ci := 6) 26 (hlt _ (by decide)) rfl (by decide) rfl (by decide) rfl (inC_X6 _) (List.mem_cons_of_mem _ fl_X6_238) dX6_figures_2 ?_
  refine lv_if_ne (tgt := 22) hx hb dX6_figures_5 (by decide) (fun c13 => ?_) (fun c13 => ?_)
  · rw [if_neg c13] at h
    exact hB22 _ _ h _ _ _ hP (lv_sub hl [0, 1] rfl)
  · rw [if_pos c13] at h
    refine lv_aload_n hx hb dX6_figures_8 rfl (lv_at hl 0 rfl) ?_
    obtain ⟨q6, hq6, h⟩ := ob h
    refine vu_i hP (vu_V S hF hP (h := 26) (hlt _ (by decide)) rfl (by decide) rfl (c_X6_here l P hA hn w hq6) ok_X6_here ml_X6_241 ⟨Nat.le_of_ble_eq_true rfl, Nat.le_of_ble_eq_true rfl⟩ rfl hl.1 rfl (Nat.le_of_ble_eq_true rfl) dX6_figures_9 ⟨Nat.le_of_ble_eq_true rfl, Nat.le_of_ble_eq_true rfl⟩) (fun H locs ho7 hP => ?_)
    refine lv_bipush (v := 48) hx hb dX6_figures_12 (by decide) ?_
    refine lv_bipush (v := 57) hx hb dX6_figures_14 (by decide) ?_
    refine vu_i hP (vu_S S hF hP (c_X6_in l P hA hn w q6 48 57) ok_X6_in ml_X6_70 ⟨Nat.le_of_ble_eq_true rfl, Nat.le_of_ble_eq_true rfl⟩ rfl hl.1 rfl (Nat.le_of_ble_eq_true rfl) dX6_figures_16 ⟨Nat.le_of_ble_eq_true rfl, Nat.le_of_ble_eq_true rfl⟩) (fun H locs ho8 hP => ?_)
    refine lv_if_ne (tgt := 26) hx hb dX6_figures_19 (by decide) (fun c14 => ?_) (fun c14 => ?_)
    · rw [if_neg c14] at h
      refine lv_iconst (v := 0) hx hb dX6_figures_26 (by decide) ?_
      exact hB27 _ _ _ h _ _ _ hP (lv_sub hl [0, 1] rfl)
    · rw [if_pos c14] at h
      exact hB22 _ _ h _ _ _ hP (lv_sub hl [0, 1] rfl)
set_option maxRecDepth 100000 in
set_option maxHeartbeats 4000000 in
theorem c_X6_readsSign (l : Launch) (P : Pl) (hA : Adr P) (hn : 36 ≤ P.2.2.2.1) (w : Wo) (x1 : Int32) {r : Int32 × Wo} (h : F_X6_readsSign w x1 = some r) : CtI l P yX6_readsSign cX6_readsSign 3 (some .int) 2 [.ref (P.2.1 26), .int x1] w r.1 r.2 := by
  have hlt : ∀ h, h < 36 → h < P.2.2.2.1 := fun h q => Nat.lt_of_lt_of_le q hn
  refine vs_met hA (by decide +kernel) (Nat.le_of_ble_eq_true rfl) (fun p e s m args below meth c ls S hF hP hl hr hk => ?_)
  have hx := S.1
  have hb := S.2.1
  replace hl : lv_has ls 3 [(0, .ref (P.2.1 26)), (1, .int x1)] := hl
  have hB59 : ∀ (w : Wo) (x2 : Int32), B_X6_readsSign_59 w x2 = some r → ∀ (H : Heap) (locs : List Loc) (ls : Array Slot), St P s w H locs → lv_has ls 3 [(2, .int x2)] → W p l e (rmU 2 0 0) s m args below meth c H locs 0 0 (QI P (some .int) r.1 r.2 below args s) (F0 m 59 ls []) := by
    intro w x2 h H locs ls hP hl
    unfold B_X6_readsSign_59 at h
    refine lv_iload_n hx hb dX6_readsSign_59 rfl (lv_at hl 0 rfl) ?_
    obtain rfl := Option.some.inj h
    exact ve_i (v := x2) S hF hP hr hk rfl dX6_readsSign_60
  have hB55 : ∀ (w : Wo) (x2 : Int32) (t0 : Int32) (t1 : Int32), B_X6_readsSign_55 w x2 t0 t1 = some r → ∀ (H : Heap) (locs : List Loc) (ls : Array Slot), St P s w H locs → lv_has ls 3 [(2, .int x2)] → W p l e (rmU 2 0 0) s m args below meth c H locs 0 0 (QI P (some .int) r.1 r.2 below args s) (F0 m 55 ls [.int t0, .int t1, .ref (P.2.1 26)]) := by
    intro w x2 t0 t1 h H locs ls hP hl
    unfold B_X6_readsSign_55 at h
    refine lv_iadd hx hb dX6_readsSign_55 ?_
    refine vt_putI S hF hP (k := 18) (ci := 6) 26 (hlt _ (by decide)) rfl (by decide) rfl (by decide) rfl tyX6 tyX6_ok nmX6 rfl rfl rfl rfl (by decide) (inC_X6 _) (List.mem_cons_of_mem _ fl_X6_235) dX6_readsSign_56 (fun H locs hP => ?_)
    exact hB59 _ _ h _ _ _ hP (lv_sub hl [0] rfl)
  have hB38 : ∀ (w : Wo) (x2 : Int32), B_X6_readsSign_38 w x2 = some r → ∀ (H : Heap) (locs : List Loc) (ls : Array Slot), St P s w H locs → lv_has ls 3 [(0, .ref (P.2.1 26)), (2, .int x2)] → W p l e (rmU 2 0 0) s m args below meth c H locs 0 0 (QI P (some .int) r.1 r.2 below args s) (F0 m 38 ls []) := by
    intro w x2 h H locs ls hP hl
    unfold B_X6_readsSign_38 at h
    refine lv_aload_n hx hb dX6_readsSign_38 rfl (lv_at hl 0 rfl) ?_
    refine lv_dup hx hb dX6_readsSign_39 rfl ?_
    refine vt_getI S hF hP (k := 18) (ci := 6) 26 (hlt _ (by decide)) rfl (by decide) rfl (by decide) rfl (inC_X6 _) (List.mem_cons_of_mem _ fl_X6_235) dX6_readsSign_40 ?_
    refine lv_aload_n hx hb dX6_readsSign_43 rfl (lv_at hl 0 rfl) ?_
    refine vt_getI S hF hP (k := 19) (ci := 6) 26 (hlt _ (by decide)) rfl (by decide) rfl (by decide) rfl (inC_X6 _) (List.mem_cons_of_mem _ fl_X6_238) dX6_readsSign_44 ?_
    refine lv_if_eq (tgt := 54) hx hb dX6_readsSign_47 (by decide) (fun c4 => ?_) (fun c4 => ?_)
    · rw [if_pos c4] at h
      refine lv_iconst (v := 1) hx hb dX6_readsSign_54 (by decide) ?_
      exact hB55 _ _ _ _ h _ _ _ hP (lv_sub hl [1] rfl)
    · rw [if_neg c4] at h
      refine lv_iconst (v := 0) hx hb dX6_readsSign_50 (by decide) ?_
      refine lv_goto (tgt := 55) hx hb dX6_readsSign_51 (by decide) ?_
      exact hB55 _ _ _ _ h _ _ _ hP (lv_sub hl [1] rfl)
  have hB35 : ∀ (w : Wo) (x2 : Int32) (t0 : Int32), B_X6_readsSign_35 w x2 t0 = some r → ∀ (H : Heap) (locs : List Loc) (ls : Array Slot), St P s w H locs → lv_has ls 3 [(0, .ref (P.2.1 26)), (2, .int x2)] → W p l e (rmU 2 0 0) s m args below meth c H locs 0 0 (QI P (some .int) r.1 r.2 below args s) (F0 m 35 ls [.int t0, .ref (P.2.1 26)]) := by
    intro w x2 t0 h H locs ls hP hl
    unfold B_X6_readsSign_35 at h
    obtain ⟨c5, h⟩ := chk h
    refine vt_putI S hF hP (k := 19) (ci := 6) 26 (hlt _ (by decide)) rfl (by decide) rfl (by decide) rfl tyX6 tyX6_ok nmX6 rfl rfl (nar_z c5) (fit_z c5) (by decide) (inC_X6 _) (List.mem_cons_of_mem _ fl_X6_238) dX6_readsSign_35 (fun H locs hP => ?_)
    exact hB38 _ _ h _ _ _ hP (lv_sub hl [0, 1] rfl)
  have hB30 : ∀ (w : Wo) (x2 : Int32), B_X6_readsSign_30 w x2 = some r → ∀ (H : Heap) (locs : List Loc) (ls : Array Slot), St P s w H locs → lv_has ls 3 [(0, .ref (P.2.1 26)), (2, .int x2)] → W p l e (rmU 2 0 0) s m args below meth c H locs 0 0 (QI P (some .int) r.1 r.2 below args s) (F0 m 30 ls [.ref (P.2.1 26)]) := by
    intro w x2 h H locs ls hP hl
    unfold B_X6_readsSign_30 at h
    refine lv_iconst (v := 1) hx hb dX6_readsSign_30 (by decide) ?_
    refine lv_goto (tgt := 35) hx hb dX6_readsSign_31 (by decide) ?_
    exact hB35 _ _ _ h _ _ _ hP (lv_sub hl [0, 1] rfl)
  have hB34 : ∀ (w : Wo) (x2 : Int32), B_X6_readsSign_34 w x2 = some r → ∀ (H : Heap) (locs : List Loc) (ls : Array Slot), St P s w H locs → lv_has ls 3 [(0, .ref (P.2.1 26)), (2, .int x2)] → W p l e (rmU 2 0 0) s m args below meth c H locs 0 0 (QI P (some .int) r.1 r.2 below args s) (F0 m 34 ls [.ref (P.2.1 26)]) := by
    intro w x2 h H locs ls hP hl
    unfold B_X6_readsSign_34 at h
    refine lv_iconst (v := 0) hx hb dX6_readsSign_34 (by decide) ?_
    exact hB35 _ _ _ h _ _ _ hP (lv_sub hl [0, 1] rfl)
  unfold F_X6_readsSign at h
  refine lv_aload_n hx hb dX6_readsSign_0 rfl (lv_at hl 0 rfl) ?_
  obtain ⟨q1, hq1, h⟩ := ob h
  refine vu_i hP (vu_V S hF hP (h := 26) (hlt _ (by decide)) rfl (by decide) rfl (c_X6_here l P hA hn w hq1) ok_X6_here ml_X6_241 ⟨Nat.le_of_ble_eq_true rfl, Nat.le_of_ble_eq_true rfl⟩ rfl hl.1 rfl (Nat.le_of_ble_eq_true rfl) dX6_readsSign_1 ⟨Nat.le_of_ble_eq_true rfl, Nat.le_of_ble_eq_true rfl⟩) (fun H locs ho2 hP => ?_)
  refine lv_istore_n (lv' := [(2, .int q1), (0, .ref (P.2.1 26)), (1, .int x1)]) hx hb dX6_readsSign_4 rfl hl (by decide) rfl (fun ls hl => ?_)
  refine lv_aload_n hx hb dX6_readsSign_5 rfl (lv_at hl 1 rfl) ?_
  refine lv_aload_n hx hb dX6_readsSign_6 rfl (lv_at hl 1 rfl) ?_
  refine vt_getI S hF hP (k := 19) (ci := 6) 26 (hlt _ (by decide)) rfl (by decide) rfl (by decide) rfl (inC_X6 _) (List.mem_cons_of_mem _ fl_X6_238) dX6_readsSign_7 ?_
  refine lv_if_ne (tgt := 30) hx hb dX6_readsSign_10 (by decide) (fun c6 => ?_) (fun c6 => ?_)
  · rw [if_neg c6] at h
    exact hB30 _ _ h _ _ _ hP (lv_sub hl [1, 0] rfl)
  · rw [if_pos c6] at h
    refine lv_iload_n hx hb dX6_readsSign_13 rfl (lv_at hl 0 rfl) ?_
    refine vu_i hP (vu_S S hF hP (c_X6_isLetter l P hA hn w q1) ok_X6_isLetter ml_X6_106 ⟨Nat.le_of_ble_eq_true rfl, Nat.le_of_ble_eq_true rfl⟩ rfl hl.1 rfl (Nat.le_of_ble_eq_true rfl) dX6_readsSign_14 ⟨Nat.le_of_ble_eq_true rfl, Nat.le_of_ble_eq_true rfl⟩) (fun H locs ho3 hP => ?_)
    refine lv_if_ne (tgt := 34) hx hb dX6_readsSign_17 (by decide) (fun c7 => ?_) (fun c7 => ?_)
    · rw [if_neg c7] at h
      exact hB34 _ _ h _ _ _ hP (lv_sub hl [1, 0] rfl)
    · rw [if_pos c7] at h
      refine lv_iload_n hx hb dX6_readsSign_20 rfl (lv_at hl 2 rfl) ?_
      refine lv_if_eq (tgt := 30) hx hb dX6_readsSign_21 (by decide) (fun c8 => ?_) (fun c8 => ?_)
      · rw [if_pos c8] at h
        exact hB30 _ _ h _ _ _ hP (lv_sub hl [1, 0] rfl)
      · rw [if_neg c8] at h
        refine lv_iload_n hx hb dX6_readsSign_24 rfl (lv_at hl 0 rfl) ?_
        refine lv_bipush (v := 46) hx hb dX6_readsSign_25 (by decide) ?_
        refine lv_icmp_eq (tgt := 34) hx hb dX6_readsSign_27 (by decide) (fun c9 => ?_) (fun c9 => ?_)
        · rw [if_pos c9] at h
          exact hB34 _ _ h _ _ _ hP (lv_sub hl [1, 0] rfl)
        · rw [if_neg c9] at h
          exact hB30 _ _ h _ _ _ hP (lv_sub hl [1, 0] rfl)
set_option maxRecDepth 100000 in
set_option maxHeartbeats 4000000 in
theorem c_X6_readsOrder (l : Launch) (P : Pl) (hA : Adr P) (hn : 36 ≤ P.2.2.2.1) (w : Wo) (x1 : Int32) {r : Wo} (h : F_X6_readsOrder w x1 = some r) : CtV l P yX6_readsOrder cX6_readsOrder 3 none 3 [.ref (P.2.1 26), .int x1] w r := by
  have hlt : ∀ h, h < 36 → h < P.2.2.2.1 := fun h q => Nat.lt_of_lt_of_le q hn
  refine vs_met hA (by decide +kernel) (Nat.le_of_ble_eq_true rfl) (fun p e s m args below meth c ls S hF hP hl hr hk => ?_)
  have hx := S.1
  have hb := S.2.1
  replace hl : lv_has ls 3 [(0, .ref (P.2.1 26)), (1, .int x1)] := hl
  have hB141 : ∀ (w : Wo) (x1 : Int32), B_X6_readsOrder_141 w x1 = some r → ∀ (H : Heap) (locs : List Loc) (ls : Array Slot), St P s w H locs → lv_has ls 3 [(0, .ref (P.2.1 26)), (1, .int x1)] → W p l e (rmU 3 0 0) s m args below meth c H locs 0 0 (QV P r below args s) (F0 m 141 ls []) := by
    intro w x1 h H locs ls hP hl
    unfold B_X6_readsOrder_141 at h
    refine lv_aload_n hx hb dX6_readsOrder_141 rfl (lv_at hl 0 rfl) ?_
    refine vt_getR (r := 35) S hF hP (k := 20) (ci := 6) 26 (hlt _ (by decide)) rfl (by decide) rfl (by decide) rfl rfl (inC_X6 _) (List.mem_cons_of_mem _ fl_X6_39) dX6_readsOrder_142 ?_
    refine lv_iload_n hx hb dX6_readsOrder_145 rfl (lv_at hl 1 rfl) ?_
    refine lv_iconst (v := 2) hx hb dX6_readsOrder_146 (by decide) ?_
    refine lv_iadd hx hb dX6_readsOrder_147 ?_
    refine lv_aload_n hx hb dX6_readsOrder_148 rfl (lv_at hl 0 rfl) ?_
    refine lv_iconst (v := 1) hx hb dX6_readsOrder_149 (by decide) ?_
    obtain ⟨q5, hq5, h⟩ := ob h
    refine vu_i hP (vu_V S hF hP (h := 26) (hlt _ (by decide)) rfl (by decide) rfl (c_X6_figures l P hA hn w 1 hq5) ok_X6_figures ml_X6_244 ⟨Nat.le_of_ble_eq_true rfl, Nat.le_of_ble_eq_true rfl⟩ rfl hl.1 rfl (Nat.le_of_ble_eq_true rfl) dX6_readsOrder_150 ⟨Nat.le_of_ble_eq_true rfl, Nat.le_of_ble_eq_true rfl⟩) (fun H locs ho6 hP => ?_)
    obtain ⟨c24, h⟩ := chk h
    refine vt_iast S hF hP (hlt _ (by decide)) rfl c24 dX6_readsOrder_153 (fun H locs hP => ?_)
    refine lv_goto (tgt := 278) hx hb dX6_readsOrder_154 (by decide) ?_
    obtain rfl := Option.some.inj h
    exact ve_v S hF hP hr hk dX6_readsOrder_278
  have hB268 : ∀ (w : Wo), B_X6_readsOrder_268 w = some r → ∀ (H : Heap) (locs : List Loc) (ls : Array Slot), St P s w H locs → lv_has ls 3 [(0, .ref (P.2.1 26))] → W p l e (rmU 3 0 0) s m args below meth c H locs 0 0 (QV P r below args s) (F0 m 268 ls []) := by
    intro w h H locs ls hP hl
    unfold B_X6_readsOrder_268 at h
    refine lv_aload_n hx hb dX6_readsOrder_268 rfl (lv_at hl 0 rfl) ?_
    refine lv_dup hx hb dX6_readsOrder_269 rfl ?_
    refine vt_getI S hF hP (k := 18) (ci := 6) 26 (hlt _ (by decide)) rfl (by decide) rfl (by decide) rfl (inC_X6 _) (List.mem_cons_of_mem _ fl_X6_235) dX6_readsOrder_270 ?_
    refine lv_iconst (v := 1) hx hb dX6_readsOrder_273 (by decide) ?_
    refine lv_isub hx hb dX6_readsOrder_274 ?_
    refine vt_putI S hF hP (k := 18) (ci := 6) 26 (hlt _ (by decide)) rfl (by decide) rfl (by decide) rfl tyX6 tyX6_ok nmX6 rfl rfl rfl rfl (by decide) (inC_X6 _) (List.mem_cons_of_mem _ fl_X6_235) dX6_readsOrder_275 (fun H locs hP => ?_)
    obtain rfl := Option.some.inj h
    exact ve_v S hF hP hr hk dX6_readsOrder_278
  have hB189 : ∀ (w : Wo) (t0 : Int32) (t2 : Int32), B_X6_readsOrder_189 w t0 t2 = some r → ∀ (H : Heap) (locs : List Loc) (ls : Array Slot), St P s w H locs → lv_has ls 3 [] → W p l e (rmU 3 0 0) s m args below meth c H locs 0 0 (QV P r below args s) (F0 m 189 ls [.int t0, .ref (P.2.1 26), .int t2, .ref (P.2.1 35)]) := by
    intro w t0 t2 h H locs ls hP hl
    unfold B_X6_readsOrder_189 at h
    obtain ⟨q9, hq9, h⟩ := ob h
    refine vu_i hP (vu_V S hF hP (h := 26) (hlt _ (by decide)) rfl (by decide) rfl (c_X6_readsSign l P hA hn w t0 hq9) ok_X6_readsSign ml_X6_247 ⟨Nat.le_of_ble_eq_true rfl, Nat.le_of_ble_eq_true rfl⟩ rfl hl.1 rfl (Nat.le_of_ble_eq_true rfl) dX6_readsOrder_189 ⟨Nat.le_of_ble_eq_true rfl, Nat.le_of_ble_eq_true rfl⟩) (fun H locs ho10 hP => ?_)
    obtain ⟨c25, h⟩ := chk h
    refine vt_iast S hF hP (hlt _ (by decide)) rfl c25 dX6_readsOrder_192 (fun H locs hP => ?_)
    refine lv_goto (tgt := 278) hx hb dX6_readsOrder_193 (by decide) ?_
    obtain rfl := Option.some.inj h
    exact ve_v S hF hP hr hk dX6_readsOrder_278
  have hB170 : ∀ (w : Wo) (x1 : Int32) (x2 : Int32), B_X6_readsOrder_170 w x1 x2 = some r → ∀ (H : Heap) (locs : List Loc) (ls : Array Slot), St P s w H locs → lv_has ls 3 [(0, .ref (P.2.1 26)), (1, .int x1), (2, .int x2)] → W p l e (rmU 3 0 0) s m args below meth c H locs 0 0 (QV P r below args s) (F0 m 170 ls []) := by
    intro w x1 x2 h H locs ls hP hl
    unfold B_X6_readsOrder_170 at h
    refine lv_aload_n hx hb dX6_readsOrder_170 rfl (lv_at hl 0 rfl) ?_
    refine vt_getR (r := 35) S hF hP (k := 20) (ci := 6) 26 (hlt _ (by decide)) rfl (by decide) rfl (by decide) rfl rfl (inC_X6 _) (List.mem_cons_of_mem _ fl_X6_39) dX6_readsOrder_171 ?_
    refine lv_iload_n hx hb dX6_readsOrder_174 rfl (lv_at hl 1 rfl) ?_
    refine lv_iconst (v := 2) hx hb dX6_readsOrder_175 (by decide) ?_
    refine lv_iadd hx hb dX6_readsOrder_176 ?_
    refine lv_aload_n hx hb dX6_readsOrder_177 rfl (lv_at hl 0 rfl) ?_
    refine lv_iload_n hx hb dX6_readsOrder_178 rfl (lv_at hl 2 rfl) ?_
    refine lv_bipush (v := 103) hx hb dX6_readsOrder_179 (by decide) ?_
    refine lv_icmp_ne (tgt := 188) hx hb dX6_readsOrder_181 (by decide) (fun c26 => ?_) (fun c26 => ?_)
    · rw [if_neg c26] at h
      refine lv_iconst (v := 0) hx hb dX6_readsOrder_188 (by decide) ?_
      exact hB189 _ _ _ h _ _ _ hP (lv_sub hl [] rfl)
    · rw [if_pos c26] at h
      refine lv_iconst (v := 1) hx hb dX6_readsOrder_184 (by decide) ?_
      refine lv_goto (tgt := 189) hx hb dX6_readsOrder_185 (by decide) ?_
      exact hB189 _ _ _ h _ _ _ hP (lv_sub hl [] rfl)
  have hB241 : ∀ (w : Wo) (x1 : Int32), B_X6_readsOrder_241 w x1 = some r → ∀ (H : Heap) (locs : List Loc) (ls : Array Slot), St P s w H locs → lv_has ls 3 [(0, .ref (P.2.1 26)), (1, .int x1)] → W p l e (rmU 3 0 0) s m args below meth c H locs 0 0 (QV P r below args s) (F0 m 241 ls []) := by
    intro w x1 h H locs ls hP hl
    unfold B_X6_readsOrder_241 at h
    refine lv_aload_n hx hb dX6_readsOrder_241 rfl (lv_at hl 0 rfl) ?_
    refine lv_bipush (v := 47) hx hb dX6_readsOrder_242 (by decide) ?_
    obtain ⟨q15, hq15, h⟩ := ob h
    refine vu_v hP (vu_V S hF hP (h := 26) (hlt _ (by decide)) rfl (by decide) rfl (c_X6_needs l P hA hn w 47 hq15) ok_X6_needs ml_X6_251 ⟨Nat.le_of_ble_eq_true rfl, Nat.le_of_ble_eq_true rfl⟩ rfl hl.1 rfl (Nat.le_of_ble_eq_true rfl) dX6_readsOrder_244 ⟨Nat.le_of_ble_eq_true rfl, Nat.le_of_ble_eq_true rfl⟩) (fun H locs hP => ?_)
    refine lv_aload_n hx hb dX6_readsOrder_247 rfl (lv_at hl 0 rfl) ?_
    refine vt_getR (r := 35) S hF hP (k := 20) (ci := 6) 26 (hlt _ (by decide)) rfl (by decide) rfl (by decide) rfl rfl (inC_X6 _) (List.mem_cons_of_mem _ fl_X6_39) dX6_readsOrder_248 ?_
    refine lv_iload_n hx hb dX6_readsOrder_251 rfl (lv_at hl 1 rfl) ?_
    refine lv_iconst (v := 2) hx hb dX6_readsOrder_252 (by decide) ?_
    refine lv_iadd hx hb dX6_readsOrder_253 ?_
    refine lv_aload_n hx hb dX6_readsOrder_254 rfl (lv_at hl 0 rfl) ?_
    refine lv_iconst (v := 1) hx hb dX6_readsOrder_255 (by decide) ?_
    obtain ⟨q16, hq16, h⟩ := ob h
    refine vu_i hP (vu_V S hF hP (h := 26) (hlt _ (by decide)) rfl (by decide) rfl (c_X6_figures l P hA hn q15 1 hq16) ok_X6_figures ml_X6_244 ⟨Nat.le_of_ble_eq_true rfl, Nat.le_of_ble_eq_true rfl⟩ rfl hl.1 rfl (Nat.le_of_ble_eq_true rfl) dX6_readsOrder_256 ⟨Nat.le_of_ble_eq_true rfl, Nat.le_of_ble_eq_true rfl⟩) (fun H locs ho17 hP => ?_)
    obtain ⟨c27, h⟩ := chk h
    refine vt_iast S hF hP (hlt _ (by decide)) rfl c27 dX6_readsOrder_259 (fun H locs hP => ?_)
    refine lv_goto (tgt := 278) hx hb dX6_readsOrder_260 (by decide) ?_
    obtain rfl := Option.some.inj h
    exact ve_v S hF hP hr hk dX6_readsOrder_278
  have hB22 : ∀ (w : Wo) (x1 : Int32) (x2 : Int32), B_X6_readsOrder_22 w x1 x2 = some r → ∀ (H : Heap) (locs : List Loc) (ls : Array Slot), St P s w H locs → lv_has ls 3 [(0, .ref (P.2.1 26)), (1, .int x1), (2, .int x2)] → W p l e (rmU 3 0 0) s m args below meth c H locs 0 0 (QV P r below args s) (F0 m 22 ls []) := by
    intro w x1 x2 h H locs ls hP hl
    unfold B_X6_readsOrder_22 at h
    refine lv_iload_n hx hb dX6_readsOrder_22 rfl (lv_at hl 2 rfl) ?_
    by_cases c28 : x2 = 98
    · rw [if_pos c28] at h
      refine lv_tableIn (off := 105) (tgt := 128) hx hb dX6_readsOrder_23 (by rw [c28]; decide) (by rw [c28]; decide) (by rw [c28]; rfl) (by decide) ?_
      refine lv_aload_n hx hb dX6_readsOrder_128 rfl (lv_at hl 0 rfl) ?_
      refine vt_getR (r := 35) S hF hP (k := 20) (ci := 6) 26 (hlt _ (by decide)) rfl (by decide) rfl (by decide) rfl rfl (inC_X6 _) (List.mem_cons_of_mem _ fl_X6_39) dX6_readsOrder_129 ?_
      refine lv_iload_n hx hb dX6_readsOrder_132 rfl (lv_at hl 1 rfl) ?_
      refine lv_iconst (v := 1) hx hb dX6_readsOrder_133 (by decide) ?_
      refine lv_iadd hx hb dX6_readsOrder_134 ?_
      refine lv_aload_n hx hb dX6_readsOrder_135 rfl (lv_at hl 0 rfl) ?_
      refine lv_iconst (v := 1) hx hb dX6_readsOrder_136 (by decide) ?_
      obtain ⟨q3, hq3, h⟩ := ob h
      refine vu_i hP (vu_V S hF hP (h := 26) (hlt _ (by decide)) rfl (by decide) rfl (c_X6_figures l P hA hn w 1 hq3) ok_X6_figures ml_X6_244 ⟨Nat.le_of_ble_eq_true rfl, Nat.le_of_ble_eq_true rfl⟩ rfl hl.1 rfl (Nat.le_of_ble_eq_true rfl) dX6_readsOrder_137 ⟨Nat.le_of_ble_eq_true rfl, Nat.le_of_ble_eq_true rfl⟩) (fun H locs ho4 hP => ?_)
      obtain ⟨c29, h⟩ := chk h
      refine vt_iast S hF hP (hlt _ (by decide)) rfl c29 dX6_readsOrder_140 (fun H locs hP => ?_)
      exact hB141 _ _ h _ _ _ hP (lv_sub hl [0, 1] rfl)
    rw [if_neg c28] at h
    by_cases c30 : x2 = 99
    · rw [if_pos c30] at h
      refine lv_tableIn (off := 240) (tgt := 263) hx hb dX6_readsOrder_23 (by rw [c30]; decide) (by rw [c30]; decide) (by rw [c30]; rfl) (by decide) ?_
      refine lv_aload_n hx hb dX6_readsOrder_263 rfl (lv_at hl 0 rfl) ?_
      refine lv_iconst (v := 1) hx hb dX6_readsOrder_264 (by decide) ?_
      refine vt_putI S hF hP (k := 19) (ci := 6) 26 (hlt _ (by decide)) rfl (by decide) rfl (by decide) rfl tyX6 tyX6_ok nmX6 rfl rfl rfl rfl (by decide) (inC_X6 _) (List.mem_cons_of_mem _ fl_X6_238) dX6_readsOrder_265 (fun H locs hP => ?_)
      exact hB268 _ h _ _ _ hP (lv_sub hl [0] rfl)
    rw [if_neg c30] at h
    by_cases c31 : x2 = 100
    · rw [if_pos c31] at h
      refine lv_tableIn (off := 240) (tgt := 263) hx hb dX6_readsOrder_23 (by rw [c31]; decide) (by rw [c31]; decide) (by rw [c31]; rfl) (by decide) ?_
      refine lv_aload_n hx hb dX6_readsOrder_263 rfl (lv_at hl 0 rfl) ?_
      refine lv_iconst (v := 1) hx hb dX6_readsOrder_264 (by decide) ?_
      refine vt_putI S hF hP (k := 19) (ci := 6) 26 (hlt _ (by decide)) rfl (by decide) rfl (by decide) rfl tyX6 tyX6_ok nmX6 rfl rfl rfl rfl (by decide) (inC_X6 _) (List.mem_cons_of_mem _ fl_X6_238) dX6_readsOrder_265 (fun H locs hP => ?_)
      exact hB268 _ h _ _ _ hP (lv_sub hl [0] rfl)
    rw [if_neg c31] at h
    by_cases c32 : x2 = 101
    · rw [if_pos c32] at h
      refine lv_tableIn (off := 240) (tgt := 263) hx hb dX6_readsOrder_23 (by rw [c32]; decide) (by rw [c32]; decide) (by rw [c32]; rfl) (by decide) ?_
      refine lv_aload_n hx hb dX6_readsOrder_263 rfl (lv_at hl 0 rfl) ?_
      refine lv_iconst (v := 1) hx hb dX6_readsOrder_264 (by decide) ?_
      refine vt_putI S hF hP (k := 19) (ci := 6) 26 (hlt _ (by decide)) rfl (by decide) rfl (by decide) rfl tyX6 tyX6_ok nmX6 rfl rfl rfl rfl (by decide) (inC_X6 _) (List.mem_cons_of_mem _ fl_X6_238) dX6_readsOrder_265 (fun H locs hP => ?_)
      exact hB268 _ h _ _ _ hP (lv_sub hl [0] rfl)
    rw [if_neg c32] at h
    by_cases c33 : x2 = 102
    · rw [if_pos c33] at h
      refine lv_tableIn (off := 240) (tgt := 263) hx hb dX6_readsOrder_23 (by rw [c33]; decide) (by rw [c33]; decide) (by rw [c33]; rfl) (by decide) ?_
      refine lv_aload_n hx hb dX6_readsOrder_263 rfl (lv_at hl 0 rfl) ?_
      refine lv_iconst (v := 1) hx hb dX6_readsOrder_264 (by decide) ?_
      refine vt_putI S hF hP (k := 19) (ci := 6) 26 (hlt _ (by decide)) rfl (by decide) rfl (by decide) rfl tyX6 tyX6_ok nmX6 rfl rfl rfl rfl (by decide) (inC_X6 _) (List.mem_cons_of_mem _ fl_X6_238) dX6_readsOrder_265 (fun H locs hP => ?_)
      exact hB268 _ h _ _ _ hP (lv_sub hl [0] rfl)
    rw [if_neg c33] at h
    by_cases c34 : x2 = 103
    · rw [if_pos c34] at h
      refine lv_tableIn (off := 134) (tgt := 157) hx hb dX6_readsOrder_23 (by rw [c34]; decide) (by rw [c34]; decide) (by rw [c34]; rfl) (by decide) ?_
      refine lv_aload_n hx hb dX6_readsOrder_157 rfl (lv_at hl 0 rfl) ?_
      refine vt_getR (r := 35) S hF hP (k := 20) (ci := 6) 26 (hlt _ (by decide)) rfl (by decide) rfl (by decide) rfl rfl (inC_X6 _) (List.mem_cons_of_mem _ fl_X6_39) dX6_readsOrder_158 ?_
      refine lv_iload_n hx hb dX6_readsOrder_161 rfl (lv_at hl 1 rfl) ?_
      refine lv_iconst (v := 1) hx hb dX6_readsOrder_162 (by decide) ?_
      refine lv_iadd hx hb dX6_readsOrder_163 ?_
      refine lv_aload_n hx hb dX6_readsOrder_164 rfl (lv_at hl 0 rfl) ?_
      refine lv_iconst (v := 1) hx hb dX6_readsOrder_165 (by decide) ?_
      obtain ⟨q7, hq7, h⟩ := ob h
      refine vu_i hP (vu_V S hF hP (h := 26) (hlt _ (by decide)) rfl (by decide) rfl (c_X6_figures l P hA hn w 1 hq7) ok_X6_figures ml_X6_244 ⟨Nat.le_of_ble_eq_true rfl, Nat.le_of_ble_eq_true rfl⟩ rfl hl.1 rfl (Nat.le_of_ble_eq_true rfl) dX6_readsOrder_166 ⟨Nat.le_of_ble_eq_true rfl, Nat.le_of_ble_eq_true rfl⟩) (fun H locs ho8 hP => ?_)
      obtain ⟨c35, h⟩ := chk h
      refine vt_iast S hF hP (hlt _ (by decide)) rfl c35 dX6_readsOrder_169 (fun H locs hP => ?_)
      exact hB170 _ _ _ h _ _ _ hP (lv_sub hl [0, 1, 2] rfl)
    rw [if_neg c34] at h
    by_cases c36 : x2 = 104
    · rw [if_pos c36] at h
      refine lv_tableIn (off := 240) (tgt := 263) hx hb dX6_readsOrder_23 (by rw [c36]; decide) (by rw [c36]; decide) (by rw [c36]; rfl) (by decide) ?_
      refine lv_aload_n hx hb dX6_readsOrder_263 rfl (lv_at hl 0 rfl) ?_
      refine lv_iconst (v := 1) hx hb dX6_readsOrder_264 (by decide) ?_
      refine vt_putI S hF hP (k := 19) (ci := 6) 26 (hlt _ (by decide)) rfl (by decide) rfl (by decide) rfl tyX6 tyX6_ok nmX6 rfl rfl rfl rfl (by decide) (inC_X6 _) (List.mem_cons_of_mem _ fl_X6_238) dX6_readsOrder_265 (fun H locs hP => ?_)
      exact hB268 _ h _ _ _ hP (lv_sub hl [0] rfl)
    rw [if_neg c36] at h
    by_cases c37 : x2 = 105
    · rw [if_pos c37] at h
      refine lv_tableIn (off := 240) (tgt := 263) hx hb dX6_readsOrder_23 (by rw [c37]; decide) (by rw [c37]; decide) (by rw [c37]; rfl) (by decide) ?_
      refine lv_aload_n hx hb dX6_readsOrder_263 rfl (lv_at hl 0 rfl) ?_
      refine lv_iconst (v := 1) hx hb dX6_readsOrder_264 (by decide) ?_
      refine vt_putI S hF hP (k := 19) (ci := 6) 26 (hlt _ (by decide)) rfl (by decide) rfl (by decide) rfl tyX6 tyX6_ok nmX6 rfl rfl rfl rfl (by decide) (inC_X6 _) (List.mem_cons_of_mem _ fl_X6_238) dX6_readsOrder_265 (fun H locs hP => ?_)
      exact hB268 _ h _ _ _ hP (lv_sub hl [0] rfl)
    rw [if_neg c37] at h
    by_cases c38 : x2 = 106
    · rw [if_pos c38] at h
      refine lv_tableIn (off := 240) (tgt := 263) hx hb dX6_readsOrder_23 (by rw [c38]; decide) (by rw [c38]; decide) (by rw [c38]; rfl) (by decide) ?_
      refine lv_aload_n hx hb dX6_readsOrder_263 rfl (lv_at hl 0 rfl) ?_
      refine lv_iconst (v := 1) hx hb dX6_readsOrder_264 (by decide) ?_
      refine vt_putI S hF hP (k := 19) (ci := 6) 26 (hlt _ (by decide)) rfl (by decide) rfl (by decide) rfl tyX6 tyX6_ok nmX6 rfl rfl rfl rfl (by decide) (inC_X6 _) (List.mem_cons_of_mem _ fl_X6_238) dX6_readsOrder_265 (fun H locs hP => ?_)
      exact hB268 _ h _ _ _ hP (lv_sub hl [0] rfl)
    rw [if_neg c38] at h
    by_cases c39 : x2 = 107
    · rw [if_pos c39] at h
      refine lv_tableIn (off := 240) (tgt := 263) hx hb dX6_readsOrder_23 (by rw [c39]; decide) (by rw [c39]; decide) (by rw [c39]; rfl) (by decide) ?_
      refine lv_aload_n hx hb dX6_readsOrder_263 rfl (lv_at hl 0 rfl) ?_
      refine lv_iconst (v := 1) hx hb dX6_readsOrder_264 (by decide) ?_
      refine vt_putI S hF hP (k := 19) (ci := 6) 26 (hlt _ (by decide)) rfl (by decide) rfl (by decide) rfl tyX6 tyX6_ok nmX6 rfl rfl rfl rfl (by decide) (inC_X6 _) (List.mem_cons_of_mem _ fl_X6_238) dX6_readsOrder_265 (fun H locs hP => ?_)
      exact hB268 _ h _ _ _ hP (lv_sub hl [0] rfl)
    rw [if_neg c39] at h
    by_cases c40 : x2 = 108
    · rw [if_pos c40] at h
      refine lv_tableIn (off := 240) (tgt := 263) hx hb dX6_readsOrder_23 (by rw [c40]; decide) (by rw [c40]; decide) (by rw [c40]; rfl) (by decide) ?_
      refine lv_aload_n hx hb dX6_readsOrder_263 rfl (lv_at hl 0 rfl) ?_
      refine lv_iconst (v := 1) hx hb dX6_readsOrder_264 (by decide) ?_
      refine vt_putI S hF hP (k := 19) (ci := 6) 26 (hlt _ (by decide)) rfl (by decide) rfl (by decide) rfl tyX6 tyX6_ok nmX6 rfl rfl rfl rfl (by decide) (inC_X6 _) (List.mem_cons_of_mem _ fl_X6_238) dX6_readsOrder_265 (fun H locs hP => ?_)
      exact hB268 _ h _ _ _ hP (lv_sub hl [0] rfl)
    rw [if_neg c40] at h
    by_cases c41 : x2 = 109
    · rw [if_pos c41] at h
      refine lv_tableIn (off := 240) (tgt := 263) hx hb dX6_readsOrder_23 (by rw [c41]; decide) (by rw [c41]; decide) (by rw [c41]; rfl) (by decide) ?_
      refine lv_aload_n hx hb dX6_readsOrder_263 rfl (lv_at hl 0 rfl) ?_
      refine lv_iconst (v := 1) hx hb dX6_readsOrder_264 (by decide) ?_
      refine vt_putI S hF hP (k := 19) (ci := 6) 26 (hlt _ (by decide)) rfl (by decide) rfl (by decide) rfl tyX6 tyX6_ok nmX6 rfl rfl rfl rfl (by decide) (inC_X6 _) (List.mem_cons_of_mem _ fl_X6_238) dX6_readsOrder_265 (fun H locs hP => ?_)
      exact hB268 _ h _ _ _ hP (lv_sub hl [0] rfl)
    rw [if_neg c41] at h
    by_cases c42 : x2 = 110
    · rw [if_pos c42] at h
      refine lv_tableIn (off := 240) (tgt := 263) hx hb dX6_readsOrder_23 (by rw [c42]; decide) (by rw [c42]; decide) (by rw [c42]; rfl) (by decide) ?_
      refine lv_aload_n hx hb dX6_readsOrder_263 rfl (lv_at hl 0 rfl) ?_
      refine lv_iconst (v := 1) hx hb dX6_readsOrder_264 (by decide) ?_
      refine vt_putI S hF hP (k := 19) (ci := 6) 26 (hlt _ (by decide)) rfl (by decide) rfl (by decide) rfl tyX6 tyX6_ok nmX6 rfl rfl rfl rfl (by decide) (inC_X6 _) (List.mem_cons_of_mem _ fl_X6_238) dX6_readsOrder_265 (fun H locs hP => ?_)
      exact hB268 _ h _ _ _ hP (lv_sub hl [0] rfl)
    rw [if_neg c42] at h
    by_cases c43 : x2 = 111
    · rw [if_pos c43] at h
      refine lv_tableIn (off := 240) (tgt := 263) hx hb dX6_readsOrder_23 (by rw [c43]; decide) (by rw [c43]; decide) (by rw [c43]; rfl) (by decide) ?_
      refine lv_aload_n hx hb dX6_readsOrder_263 rfl (lv_at hl 0 rfl) ?_
      refine lv_iconst (v := 1) hx hb dX6_readsOrder_264 (by decide) ?_
      refine vt_putI S hF hP (k := 19) (ci := 6) 26 (hlt _ (by decide)) rfl (by decide) rfl (by decide) rfl tyX6 tyX6_ok nmX6 rfl rfl rfl rfl (by decide) (inC_X6 _) (List.mem_cons_of_mem _ fl_X6_238) dX6_readsOrder_265 (fun H locs hP => ?_)
      exact hB268 _ h _ _ _ hP (lv_sub hl [0] rfl)
    rw [if_neg c43] at h
    by_cases c44 : x2 = 112
    · rw [if_pos c44] at h
      refine lv_tableIn (off := 134) (tgt := 157) hx hb dX6_readsOrder_23 (by rw [c44]; decide) (by rw [c44]; decide) (by rw [c44]; rfl) (by decide) ?_
      refine lv_aload_n hx hb dX6_readsOrder_157 rfl (lv_at hl 0 rfl) ?_
      refine vt_getR (r := 35) S hF hP (k := 20) (ci := 6) 26 (hlt _ (by decide)) rfl (by decide) rfl (by decide) rfl rfl (inC_X6 _) (List.mem_cons_of_mem _ fl_X6_39) dX6_readsOrder_158 ?_
      refine lv_iload_n hx hb dX6_readsOrder_161 rfl (lv_at hl 1 rfl) ?_
      refine lv_iconst (v := 1) hx hb dX6_readsOrder_162 (by decide) ?_
      refine lv_iadd hx hb dX6_readsOrder_163 ?_
      refine lv_aload_n hx hb dX6_readsOrder_164 rfl (lv_at hl 0 rfl) ?_
      refine lv_iconst (v := 1) hx hb dX6_readsOrder_165 (by decide) ?_
      obtain ⟨q11, hq11, h⟩ := ob h
      refine vu_i hP (vu_V S hF hP (h := 26) (hlt _ (by decide)) rfl (by decide) rfl (c_X6_figures l P hA hn w 1 hq11) ok_X6_figures ml_X6_244 ⟨Nat.le_of_ble_eq_true rfl, Nat.le_of_ble_eq_true rfl⟩ rfl hl.1 rfl (Nat.le_of_ble_eq_true rfl) dX6_readsOrder_166 ⟨Nat.le_of_ble_eq_true rfl, Nat.le_of_ble_eq_true rfl⟩) (fun H locs ho12 hP => ?_)
      obtain ⟨c45, h⟩ := chk h
      refine vt_iast S hF hP (hlt _ (by decide)) rfl c45 dX6_readsOrder_169 (fun H locs hP => ?_)
      exact hB170 _ _ _ h _ _ _ hP (lv_sub hl [0, 1, 2] rfl)
    rw [if_neg c44] at h
    by_cases c46 : x2 = 113
    · rw [if_pos c46] at h
      refine lv_tableIn (off := 240) (tgt := 263) hx hb dX6_readsOrder_23 (by rw [c46]; decide) (by rw [c46]; decide) (by rw [c46]; rfl) (by decide) ?_
      refine lv_aload_n hx hb dX6_readsOrder_263 rfl (lv_at hl 0 rfl) ?_
      refine lv_iconst (v := 1) hx hb dX6_readsOrder_264 (by decide) ?_
      refine vt_putI S hF hP (k := 19) (ci := 6) 26 (hlt _ (by decide)) rfl (by decide) rfl (by decide) rfl tyX6 tyX6_ok nmX6 rfl rfl rfl rfl (by decide) (inC_X6 _) (List.mem_cons_of_mem _ fl_X6_238) dX6_readsOrder_265 (fun H locs hP => ?_)
      exact hB268 _ h _ _ _ hP (lv_sub hl [0] rfl)
    rw [if_neg c46] at h
    by_cases c47 : x2 = 114
    · rw [if_pos c47] at h
      refine lv_tableIn (off := 205) (tgt := 228) hx hb dX6_readsOrder_23 (by rw [c47]; decide) (by rw [c47]; decide) (by rw [c47]; rfl) (by decide) ?_
      refine lv_aload_n hx hb dX6_readsOrder_228 rfl (lv_at hl 0 rfl) ?_
      refine vt_getR (r := 35) S hF hP (k := 20) (ci := 6) 26 (hlt _ (by decide)) rfl (by decide) rfl (by decide) rfl rfl (inC_X6 _) (List.mem_cons_of_mem _ fl_X6_39) dX6_readsOrder_229 ?_
      refine lv_iload_n hx hb dX6_readsOrder_232 rfl (lv_at hl 1 rfl) ?_
      refine lv_iconst (v := 1) hx hb dX6_readsOrder_233 (by decide) ?_
      refine lv_iadd hx hb dX6_readsOrder_234 ?_
      refine lv_aload_n hx hb dX6_readsOrder_235 rfl (lv_at hl 0 rfl) ?_
      refine lv_iconst (v := 3) hx hb dX6_readsOrder_236 (by decide) ?_
      obtain ⟨q13, hq13, h⟩ := ob h
      refine vu_i hP (vu_V S hF hP (h := 26) (hlt _ (by decide)) rfl (by decide) rfl (c_X6_figures l P hA hn w 3 hq13) ok_X6_figures ml_X6_244 ⟨Nat.le_of_ble_eq_true rfl, Nat.le_of_ble_eq_true rfl⟩ rfl hl.1 rfl (Nat.le_of_ble_eq_true rfl) dX6_readsOrder_237 ⟨Nat.le_of_ble_eq_true rfl, Nat.le_of_ble_eq_true rfl⟩) (fun H locs ho14 hP => ?_)
      obtain ⟨c48, h⟩ := chk h
      refine vt_iast S hF hP (hlt _ (by decide)) rfl c48 dX6_readsOrder_240 (fun H locs hP => ?_)
      exact hB241 _ _ h _ _ _ hP (lv_sub hl [0, 1] rfl)
    rw [if_neg c47] at h
    by_cases c49 : x2 = 115
    · rw [if_pos c49] at h
      refine lv_tableIn (off := 105) (tgt := 128) hx hb dX6_readsOrder_23 (by rw [c49]; decide) (by rw [c49]; decide) (by rw [c49]; rfl) (by decide) ?_
      refine lv_aload_n hx hb dX6_readsOrder_128 rfl (lv_at hl 0 rfl) ?_
      refine vt_getR (r := 35) S hF hP (k := 20) (ci := 6) 26 (hlt _ (by decide)) rfl (by decide) rfl (by decide) rfl rfl (inC_X6 _) (List.mem_cons_of_mem _ fl_X6_39) dX6_readsOrder_129 ?_
      refine lv_iload_n hx hb dX6_readsOrder_132 rfl (lv_at hl 1 rfl) ?_
      refine lv_iconst (v := 1) hx hb dX6_readsOrder_133 (by decide) ?_
      refine lv_iadd hx hb dX6_readsOrder_134 ?_
      refine lv_aload_n hx hb dX6_readsOrder_135 rfl (lv_at hl 0 rfl) ?_
      refine lv_iconst (v := 1) hx hb dX6_readsOrder_136 (by decide) ?_
      obtain ⟨q18, hq18, h⟩ := ob h
      refine vu_i hP (vu_V S hF hP (h := 26) (hlt _ (by decide)) rfl (by decide) rfl (c_X6_figures l P hA hn w 1 hq18) ok_X6_figures ml_X6_244 ⟨Nat.le_of_ble_eq_true rfl, Nat.le_of_ble_eq_true rfl⟩ rfl hl.1 rfl (Nat.le_of_ble_eq_true rfl) dX6_readsOrder_137 ⟨Nat.le_of_ble_eq_true rfl, Nat.le_of_ble_eq_true rfl⟩) (fun H locs ho19 hP => ?_)
      obtain ⟨c50, h⟩ := chk h
      refine vt_iast S hF hP (hlt _ (by decide)) rfl c50 dX6_readsOrder_140 (fun H locs hP => ?_)
      exact hB141 _ _ h _ _ _ hP (lv_sub hl [0, 1] rfl)
    rw [if_neg c49] at h
    by_cases c51 : x2 = 116
    · rw [if_pos c51] at h
      refine lv_tableIn (off := 173) (tgt := 196) hx hb dX6_readsOrder_23 (by rw [c51]; decide) (by rw [c51]; decide) (by rw [c51]; rfl) (by decide) ?_
      refine lv_aload_n hx hb dX6_readsOrder_196 rfl (lv_at hl 0 rfl) ?_
      refine vt_getR (r := 35) S hF hP (k := 20) (ci := 6) 26 (hlt _ (by decide)) rfl (by decide) rfl (by decide) rfl rfl (inC_X6 _) (List.mem_cons_of_mem _ fl_X6_39) dX6_readsOrder_197 ?_
      refine lv_iload_n hx hb dX6_readsOrder_200 rfl (lv_at hl 1 rfl) ?_
      refine lv_iconst (v := 1) hx hb dX6_readsOrder_201 (by decide) ?_
      refine lv_iadd hx hb dX6_readsOrder_202 ?_
      refine lv_aload_n hx hb dX6_readsOrder_203 rfl (lv_at hl 0 rfl) ?_
      refine lv_iconst (v := 3) hx hb dX6_readsOrder_204 (by decide) ?_
      obtain ⟨q20, hq20, h⟩ := ob h
      refine vu_i hP (vu_V S hF hP (h := 26) (hlt _ (by decide)) rfl (by decide) rfl (c_X6_figures l P hA hn w 3 hq20) ok_X6_figures ml_X6_244 ⟨Nat.le_of_ble_eq_true rfl, Nat.le_of_ble_eq_true rfl⟩ rfl hl.1 rfl (Nat.le_of_ble_eq_true rfl) dX6_readsOrder_205 ⟨Nat.le_of_ble_eq_true rfl, Nat.le_of_ble_eq_true rfl⟩) (fun H locs ho21 hP => ?_)
      obtain ⟨c52, h⟩ := chk h
      refine vt_iast S hF hP (hlt _ (by decide)) rfl c52 dX6_readsOrder_208 (fun H locs hP => ?_)
      refine lv_goto (tgt := 278) hx hb dX6_readsOrder_209 (by decide) ?_
      obtain rfl := Option.some.inj h
      exact ve_v S hF hP hr hk dX6_readsOrder_278
    rw [if_neg c51] at h
    by_cases c53 : x2 = 117
    · rw [if_pos c53] at h
      refine lv_tableIn (off := 240) (tgt := 263) hx hb dX6_readsOrder_23 (by rw [c53]; decide) (by rw [c53]; decide) (by rw [c53]; rfl) (by decide) ?_
      refine lv_aload_n hx hb dX6_readsOrder_263 rfl (lv_at hl 0 rfl) ?_
      refine lv_iconst (v := 1) hx hb dX6_readsOrder_264 (by decide) ?_
      refine vt_putI S hF hP (k := 19) (ci := 6) 26 (hlt _ (by decide)) rfl (by decide) rfl (by decide) rfl tyX6 tyX6_ok nmX6 rfl rfl rfl rfl (by decide) (inC_X6 _) (List.mem_cons_of_mem _ fl_X6_238) dX6_readsOrder_265 (fun H locs hP => ?_)
      exact hB268 _ h _ _ _ hP (lv_sub hl [0] rfl)
    rw [if_neg c53] at h
    by_cases c54 : x2 = 118
    · rw [if_pos c54] at h
      refine lv_tableIn (off := 240) (tgt := 263) hx hb dX6_readsOrder_23 (by rw [c54]; decide) (by rw [c54]; decide) (by rw [c54]; rfl) (by decide) ?_
      refine lv_aload_n hx hb dX6_readsOrder_263 rfl (lv_at hl 0 rfl) ?_
      refine lv_iconst (v := 1) hx hb dX6_readsOrder_264 (by decide) ?_
      refine vt_putI S hF hP (k := 19) (ci := 6) 26 (hlt _ (by decide)) rfl (by decide) rfl (by decide) rfl tyX6 tyX6_ok nmX6 rfl rfl rfl rfl (by decide) (inC_X6 _) (List.mem_cons_of_mem _ fl_X6_238) dX6_readsOrder_265 (fun H locs hP => ?_)
      exact hB268 _ h _ _ _ hP (lv_sub hl [0] rfl)
    rw [if_neg c54] at h
    by_cases c55 : x2 = 119
    · rw [if_pos c55] at h
      refine lv_tableIn (off := 240) (tgt := 263) hx hb dX6_readsOrder_23 (by rw [c55]; decide) (by rw [c55]; decide) (by rw [c55]; rfl) (by decide) ?_
      refine lv_aload_n hx hb dX6_readsOrder_263 rfl (lv_at hl 0 rfl) ?_
      refine lv_iconst (v := 1) hx hb dX6_readsOrder_264 (by decide) ?_
      refine vt_putI S hF hP (k := 19) (ci := 6) 26 (hlt _ (by decide)) rfl (by decide) rfl (by decide) rfl tyX6 tyX6_ok nmX6 rfl rfl rfl rfl (by decide) (inC_X6 _) (List.mem_cons_of_mem _ fl_X6_238) dX6_readsOrder_265 (fun H locs hP => ?_)
      exact hB268 _ h _ _ _ hP (lv_sub hl [0] rfl)
    rw [if_neg c55] at h
    by_cases c56 : x2 = 120
    · rw [if_pos c56] at h
      refine lv_tableIn (off := 189) (tgt := 212) hx hb dX6_readsOrder_23 (by rw [c56]; decide) (by rw [c56]; decide) (by rw [c56]; rfl) (by decide) ?_
      refine lv_aload_n hx hb dX6_readsOrder_212 rfl (lv_at hl 0 rfl) ?_
      refine vt_getR (r := 35) S hF hP (k := 20) (ci := 6) 26 (hlt _ (by decide)) rfl (by decide) rfl (by decide) rfl rfl (inC_X6 _) (List.mem_cons_of_mem _ fl_X6_39) dX6_readsOrder_213 ?_
      refine lv_iload_n hx hb dX6_readsOrder_216 rfl (lv_at hl 1 rfl) ?_
      refine lv_iconst (v := 1) hx hb dX6_readsOrder_217 (by decide) ?_
      refine lv_iadd hx hb dX6_readsOrder_218 ?_
      refine lv_aload_n hx hb dX6_readsOrder_219 rfl (lv_at hl 0 rfl) ?_
      refine lv_iconst (v := 1) hx hb dX6_readsOrder_220 (by decide) ?_
      obtain ⟨q22, hq22, h⟩ := ob h
      refine vu_i hP (vu_V S hF hP (h := 26) (hlt _ (by decide)) rfl (by decide) rfl (c_X6_figures l P hA hn w 1 hq22) ok_X6_figures ml_X6_244 ⟨Nat.le_of_ble_eq_true rfl, Nat.le_of_ble_eq_true rfl⟩ rfl hl.1 rfl (Nat.le_of_ble_eq_true rfl) dX6_readsOrder_221 ⟨Nat.le_of_ble_eq_true rfl, Nat.le_of_ble_eq_true rfl⟩) (fun H locs ho23 hP => ?_)
      obtain ⟨c57, h⟩ := chk h
      refine vt_iast S hF hP (hlt _ (by decide)) rfl c57 dX6_readsOrder_224 (fun H locs hP => ?_)
      refine lv_goto (tgt := 278) hx hb dX6_readsOrder_225 (by decide) ?_
      obtain rfl := Option.some.inj h
      exact ve_v S hF hP hr hk dX6_readsOrder_278
    rw [if_neg c56] at h
    refine lv_tableOut (tgt := 263) hx hb dX6_readsOrder_23 (sw_out (fun i i1 i2 => ?_)) (by decide) ?_
    · have i3 : i = 98 ∨ i = 99 ∨ i = 100 ∨ i = 101 ∨ i = 102 ∨ i = 103 ∨ i = 104 ∨ i = 105 ∨ i = 106 ∨ i = 107 ∨ i = 108 ∨ i = 109 ∨ i = 110 ∨ i = 111 ∨ i = 112 ∨ i = 113 ∨ i = 114 ∨ i = 115 ∨ i = 116 ∨ i = 117 ∨ i = 118 ∨ i = 119 ∨ i = 120 := by omega
      rcases i3 with rfl | rfl | rfl | rfl | rfl | rfl | rfl | rfl | rfl | rfl | rfl | rfl | rfl | rfl | rfl | rfl | rfl | rfl | rfl | rfl | rfl | rfl | rfl
      · exact c28
      · exact c30
      · exact c31
      · exact c32
      · exact c33
      · exact c34
      · exact c36
      · exact c37
      · exact c38
      · exact c39
      · exact c40
      · exact c41
      · exact c42
      · exact c43
      · exact c44
      · exact c46
      · exact c47
      · exact c49
      · exact c51
      · exact c53
      · exact c54
      · exact c55
      · exact c56
    refine lv_aload_n hx hb dX6_readsOrder_263 rfl (lv_at hl 0 rfl) ?_
    refine lv_iconst (v := 1) hx hb dX6_readsOrder_264 (by decide) ?_
    refine vt_putI S hF hP (k := 19) (ci := 6) 26 (hlt _ (by decide)) rfl (by decide) rfl (by decide) rfl tyX6 tyX6_ok nmX6 rfl rfl rfl rfl (by decide) (inC_X6 _) (List.mem_cons_of_mem _ fl_X6_238) dX6_readsOrder_265 (fun H locs hP => ?_)
    exact hB268 _ h _ _ _ hP (lv_sub hl [0] rfl)
  have hB15 : ∀ (w : Wo) (x1 : Int32) (x2 : Int32), B_X6_readsOrder_15 w x1 x2 = some r → ∀ (H : Heap) (locs : List Loc) (ls : Array Slot), St P s w H locs → lv_has ls 3 [(0, .ref (P.2.1 26)), (1, .int x1), (2, .int x2)] → W p l e (rmU 3 0 0) s m args below meth c H locs 0 0 (QV P r below args s) (F0 m 15 ls []) := by
    intro w x1 x2 h H locs ls hP hl
    unfold B_X6_readsOrder_15 at h
    refine lv_aload_n hx hb dX6_readsOrder_15 rfl (lv_at hl 0 rfl) ?_
    refine vt_getR (r := 35) S hF hP (k := 20) (ci := 6) 26 (hlt _ (by decide)) rfl (by decide) rfl (by decide) rfl rfl (inC_X6 _) (List.mem_cons_of_mem _ fl_X6_39) dX6_readsOrder_16 ?_
    refine lv_iload_n hx hb dX6_readsOrder_19 rfl (lv_at hl 1 rfl) ?_
    refine lv_iload_n hx hb dX6_readsOrder_20 rfl (lv_at hl 2 rfl) ?_
    obtain ⟨c58, h⟩ := chk h
    refine vt_iast S hF hP (hlt _ (by decide)) rfl c58 dX6_readsOrder_21 (fun H locs hP => ?_)
    exact hB22 _ _ _ h _ _ _ hP (lv_sub hl [0, 1, 2] rfl)
  unfold F_X6_readsOrder at h
  refine lv_aload_n hx hb dX6_readsOrder_0 rfl (lv_at hl 0 rfl) ?_
  obtain ⟨q1, hq1, h⟩ := ob h
  refine vu_i hP (vu_V S hF hP (h := 26) (hlt _ (by decide)) rfl (by decide) rfl (c_X6_here l P hA hn w hq1) ok_X6_here ml_X6_241 ⟨Nat.le_of_ble_eq_true rfl, Nat.le_of_ble_eq_true rfl⟩ rfl hl.1 rfl (Nat.le_of_ble_eq_true rfl) dX6_readsOrder_1 ⟨Nat.le_of_ble_eq_true rfl, Nat.le_of_ble_eq_true rfl⟩) (fun H locs ho2 hP => ?_)
  refine lv_istore_n (lv' := [(2, .int q1), (0, .ref (P.2.1 26)), (1, .int x1)]) hx hb dX6_readsOrder_4 rfl hl (by decide) rfl (fun ls hl => ?_)
  refine lv_aload_n hx hb dX6_readsOrder_5 rfl (lv_at hl 1 rfl) ?_
  refine lv_dup hx hb dX6_readsOrder_6 rfl ?_
  refine vt_getI S hF hP (k := 18) (ci := 6) 26 (hlt _ (by decide)) rfl (by decide) rfl (by decide) rfl (inC_X6 _) (List.mem_cons_of_mem _ fl_X6_235) dX6_readsOrder_7 ?_
  refine lv_iconst (v := 1) hx hb dX6_readsOrder_10 (by decide) ?_
  refine lv_iadd hx hb dX6_readsOrder_11 ?_
  refine vt_putI S hF hP (k := 18) (ci := 6) 26 (hlt _ (by decide)) rfl (by decide) rfl (by decide) rfl tyX6 tyX6_ok nmX6 rfl rfl rfl rfl (by decide) (inC_X6 _) (List.mem_cons_of_mem _ fl_X6_235) dX6_readsOrder_12 (fun H locs hP => ?_)
  exact hB15 _ _ _ h _ _ _ hP (lv_sub hl [1, 2, 0] rfl)
