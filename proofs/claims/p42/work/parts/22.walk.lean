set_option maxRecDepth 100000 in
set_option maxHeartbeats 4000000 in
theorem c_X0_isOddByCycles (l : Launch) (P : Pl) (hA : Adr P) (hn : 26 ≤ P.2.2.2.1) (w : Wo) (x1 : Int64) {r : Int32} (h : F_X0_isOddByCycles w x1 = some r) : CtI l P yX0_isOddByCycles cX0_isOddByCycles 8 (some .boolean) 2 [.ref (P.2.1 1), .long x1] w r w := by
  have hlt : ∀ h, h < 26 → h < P.2.2.2.1 := fun h q => Nat.lt_of_lt_of_le q hn
  refine vs_met hA (by decide +kernel) (Nat.le_of_ble_eq_true rfl) (fun p e s m args below meth c ls S hF hP hl hr hk => ?_)
  have hx := S.1
  have hb := S.2.1
  replace hl : lv_has ls 8 [(0, .ref (P.2.1 1)), (1, .long x1)] := hl
  have hB94 : ∀ (x4 : Int32), B_X0_isOddByCycles_94 w x4 = some r → ∀ (H : Heap) (locs : List Loc) (ls : Array Slot), St P s w H locs → lv_has ls 8 [(0, .ref (P.2.1 1)), (4, .int x4)] → W p l e (rmU 2 0 0) s m args below meth c H locs 0 0 (QI P (some .boolean) r w below args s) (F0 m 94 ls []) := by
    intro x4 h H locs ls hP hl
    unfold B_X0_isOddByCycles_94 at h
    refine lv_aload_n hx hb dX0_isOddByCycles_94 rfl (lv_at hl 0 rfl) ?_
    refine vu_i hP (vu_V S hF hP (h := 1) (hlt _ (by decide)) rfl (by decide) rfl (c_X0_places l P hA hn w) ok_X0_places ml_X0_46 ⟨Nat.le_of_ble_eq_true rfl, Nat.le_of_ble_eq_true rfl⟩ rfl hl.1 rfl (Nat.le_of_ble_eq_true rfl) dX0_isOddByCycles_95 ⟨Nat.le_of_ble_eq_true rfl, Nat.le_of_ble_eq_true rfl⟩) (fun H locs ho2 hP => ?_)
    refine lv_iload hx hb dX0_isOddByCycles_98 (lv_at hl 1 rfl) ?_
    refine lv_isub hx hb dX0_isOddByCycles_100 ?_
    refine lv_iconst (v := 2) hx hb dX0_isOddByCycles_101 (by decide) ?_
    refine lv_irem hx hb dX0_isOddByCycles_102 (by decide) ?_
    refine lv_if_eq (tgt := 110) hx hb dX0_isOddByCycles_103 (by decide) (fun c7 => ?_) (fun c7 => ?_)
    · rw [if_pos c7] at h
      refine lv_iconst (v := 0) hx hb dX0_isOddByCycles_110 (by decide) ?_
      obtain rfl := Option.some.inj h
      exact ve_i (v := 0) S hF hP hr hk rfl dX0_isOddByCycles_111
    · rw [if_neg c7] at h
      refine lv_iconst (v := 1) hx hb dX0_isOddByCycles_106 (by decide) ?_
      refine lv_goto (tgt := 111) hx hb dX0_isOddByCycles_107 (by decide) ?_
      obtain rfl := Option.some.inj h
      exact ve_i (v := 1) S hF hP hr hk rfl dX0_isOddByCycles_111
  have hL8 : ∀ (x1 : Int64) (n : Nat) (x3 : Int32) (x4 : Int32) (x5 : Int32), jl3 (B_X0_isOddByCycles_8 w x1) n x3 x4 x5 = some r → ∀ (H : Heap) (locs : List Loc) (ls : Array Slot), St P s w H locs → lv_has ls 8 [(0, .ref (P.2.1 1)), (1, .long x1), (3, .int x3), (4, .int x4), (5, .int x5)] → W p l e (rmU 2 0 0) s m args below meth c H locs 0 0 (QI P (some .boolean) r w below args s) (F0 m 8 ls []) := by
    intro x1
    intro n
    induction n with
    | zero =>
      intro x3 x4 x5 h
      cases h
    | succ n ih8 =>
      intro x3 x4 x5 h H locs ls hP hl
      replace h : B_X0_isOddByCycles_8 w x1 (jl3 (B_X0_isOddByCycles_8 w x1) n) x3 x4 x5 = some r := h
      revert h ih8
      generalize jl3 (B_X0_isOddByCycles_8 w x1) n = k8
      intro ih8 h
      have hB88 : ∀ (x3 : Int32) (x4 : Int32) (x5 : Int32), B_X0_isOddByCycles_88 k8 w x1 x3 x4 x5 = some r → ∀ (H : Heap) (locs : List Loc) (ls : Array Slot), St P s w H locs → lv_has ls 8 [(0, .ref (P.2.1 1)), (1, .long x1), (3, .int x3), (4, .int x4), (5, .int x5)] → W p l e (rmU 2 0 0) s m args below meth c H locs 0 0 (QI P (some .boolean) r w below args s) (F0 m 88 ls []) := by
        intro x3 x4 x5 h H locs ls hP hl
        unfold B_X0_isOddByCycles_88 at h
        refine lv_iinc (v := (x5 + 1)) (lv' := [(5, .int (x5 + 1)), (0, .ref (P.2.1 1)), (1, .long x1), (3, .int x3), (4, .int x4)]) hx hb dX0_isOddByCycles_88 hl (k := 4) rfl rfl (by decide) rfl (fun ls hl => ?_)
        refine lv_goto (tgt := 8) hx hb dX0_isOddByCycles_91 (by decide) ?_
        exact ih8 _ _ _ h _ _ _ hP (lv_sub hl [1, 2, 3, 4, 0] rfl)
      have hL36 : ∀ (x4 : Int32) (x5 : Int32) (n : Nat) (x3 : Int32) (x6 : Int32) (x7 : Int32), jl3 (B_X0_isOddByCycles_36 k8 w x1 x4 x5) n x3 x6 x7 = some r → ∀ (H : Heap) (locs : List Loc) (ls : Array Slot), St P s w H locs → lv_has ls 8 [(0, .ref (P.2.1 1)), (1, .long x1), (3, .int x3), (4, .int x4), (5, .int x5), (6, .int x6), (7, .int x7)] → W p l e (rmU 2 0 0) s m args below meth c H locs 0 0 (QI P (some .boolean) r w below args s) (F0 m 36 ls []) := by
        intro x4 x5
        intro n
        induction n with
        | zero =>
          intro x3 x6 x7 h
          cases h
        | succ n ih36 =>
          intro x3 x6 x7 h H locs ls hP hl
          replace h : B_X0_isOddByCycles_36 k8 w x1 x4 x5 (jl3 (B_X0_isOddByCycles_36 k8 w x1 x4 x5) n) x3 x6 x7 = some r := h
          revert h ih36
          generalize jl3 (B_X0_isOddByCycles_36 k8 w x1 x4 x5) n = k36
          intro ih36 h
          unfold B_X0_isOddByCycles_36 at h
          refine lv_iload hx hb dX0_isOddByCycles_36 (lv_at hl 6 rfl) ?_
          refine lv_aload_n hx hb dX0_isOddByCycles_38 rfl (lv_at hl 0 rfl) ?_
          refine vu_i hP (vu_V S hF hP (h := 1) (hlt _ (by decide)) rfl (by decide) rfl (c_X0_places l P hA hn w) ok_X0_places ml_X0_46 ⟨Nat.le_of_ble_eq_true rfl, Nat.le_of_ble_eq_true rfl⟩ rfl hl.1 rfl (Nat.le_of_ble_eq_true rfl) dX0_isOddByCycles_39 ⟨Nat.le_of_ble_eq_true rfl, Nat.le_of_ble_eq_true rfl⟩) (fun H locs ho3 hP => ?_)
          refine lv_icmp_ge (tgt := 88) hx hb dX0_isOddByCycles_42 (by decide) (fun c8 => ?_) (fun c8 => ?_)
          · rw [if_pos c8] at h
            exact hB88 _ _ _ h _ _ _ hP (lv_sub hl [0, 1, 2, 3, 4] rfl)
          · rw [if_neg c8] at h
            refine lv_iload hx hb dX0_isOddByCycles_45 (lv_at hl 5 rfl) ?_
            refine lv_if_lt (tgt := 88) hx hb dX0_isOddByCycles_47 (by decide) (fun c9 => ?_) (fun c9 => ?_)
            · rw [if_pos c9] at h
              exact hB88 _ _ _ h _ _ _ hP (lv_sub hl [0, 1, 2, 3, 4] rfl)
            · rw [if_neg c9] at h
              refine lv_iload_n hx hb dX0_isOddByCycles_50 rfl (lv_at hl 2 rfl) ?_
              refine lv_iload hx hb dX0_isOddByCycles_51 (lv_at hl 5 rfl) ?_
              refine lv_ishr hx hb dX0_isOddByCycles_53 ?_
              refine lv_iconst (v := 1) hx hb dX0_isOddByCycles_54 (by decide) ?_
              refine lv_iand hx hb dX0_isOddByCycles_55 ?_
              refine lv_if_ne (tgt := 88) hx hb dX0_isOddByCycles_56 (by decide) (fun c10 => ?_) (fun c10 => ?_)
              · rw [if_neg c10] at h
                exact hB88 _ _ _ h _ _ _ hP (lv_sub hl [0, 1, 2, 3, 4] rfl)
              · rw [if_pos c10] at h
                refine lv_iload_n hx hb dX0_isOddByCycles_59 rfl (lv_at hl 2 rfl) ?_
                refine lv_iconst (v := 1) hx hb dX0_isOddByCycles_60 (by decide) ?_
                refine lv_iload hx hb dX0_isOddByCycles_61 (lv_at hl 5 rfl) ?_
                refine lv_ishl hx hb dX0_isOddByCycles_63 ?_
                refine lv_ior hx hb dX0_isOddByCycles_64 ?_
                refine lv_istore_n (lv' := [(3, .int (x3 ||| (jshl (1 : Int32) x6))), (0, .ref (P.2.1 1)), (1, .long x1), (4, .int x4), (5, .int x5), (6, .int x6), (7, .int x7)]) hx hb dX0_isOddByCycles_65 rfl hl (by decide) rfl (fun ls hl => ?_)
                refine lv_aload_n hx hb dX0_isOddByCycles_66 rfl (lv_at hl 1 rfl) ?_
                refine lv_lload_n hx hb dX0_isOddByCycles_67 rfl (lv_at hl 2 rfl) ?_
                refine lv_aload_n hx hb dX0_isOddByCycles_68 rfl (lv_at hl 1 rfl) ?_
                refine vt_getL S hF hP (k := 2) (ci := 0) 1 (hlt _ (by decide)) rfl (by decide) rfl (by decide) rfl (inC_X0 _) (List.mem_cons_of_mem _ fl_X0_18) dX0_isOddByCycles_69 ?_
                refine lv_iload hx hb dX0_isOddByCycles_72 (lv_at hl 5 rfl) ?_
                refine vu_i hP (vu_SN S hF hP (host := RX5) (c_X5_codeAt l P hA hn w (gL w 1 2) x6) ok_X5_codeAt (by decide +kernel) ⟨Nat.le_of_ble_eq_true rfl, Nat.le_of_ble_eq_true rfl⟩ rfl hl.1 rfl (Nat.le_of_ble_eq_true rfl) dX0_isOddByCycles_74 ⟨Nat.le_of_ble_eq_true rfl, Nat.le_of_ble_eq_true rfl⟩) (fun H locs ho4 hP => ?_)
                obtain ⟨q5, hq5, h⟩ := ob h
                refine vu_i hP (vu_V S hF hP (h := 1) (hlt _ (by decide)) rfl (by decide) rfl (c_X0_placeOf l P hA hn w x1 (F_X5_codeAt (gL w 1 2) x6) hq5) ok_X0_placeOf ml_X0_125 ⟨Nat.le_of_ble_eq_true rfl, Nat.le_of_ble_eq_true rfl⟩ rfl hl.1 rfl (Nat.le_of_ble_eq_true rfl) dX0_isOddByCycles_77 ⟨Nat.le_of_ble_eq_true rfl, Nat.le_of_ble_eq_true rfl⟩) (fun H locs ho6 hP => ?_)
                refine lv_istore (lv' := [(6, .int q5), (3, .int (x3 ||| (jshl (1 : Int32) x6))), (0, .ref (P.2.1 1)), (1, .long x1), (4, .int x4), (5, .int x5), (7, .int x7)]) hx hb dX0_isOddByCycles_80 hl (by decide) rfl (fun ls hl => ?_)
                refine lv_iinc (v := (x7 + 1)) (lv' := [(7, .int (x7 + 1)), (6, .int q5), (3, .int (x3 ||| (jshl (1 : Int32) x6))), (0, .ref (P.2.1 1)), (1, .long x1), (4, .int x4), (5, .int x5)]) hx hb dX0_isOddByCycles_82 hl (k := 6) rfl rfl (by decide) rfl (fun ls hl => ?_)
                refine lv_goto (tgt := 36) hx hb dX0_isOddByCycles_85 (by decide) ?_
                exact ih36 _ _ _ h _ _ _ hP (lv_sub hl [3, 4, 2, 5, 6, 1, 0] rfl)
      have hB29 : ∀ (x3 : Int32) (x4 : Int32) (x5 : Int32), B_X0_isOddByCycles_29 k8 w x1 x3 x4 x5 = some r → ∀ (H : Heap) (locs : List Loc) (ls : Array Slot), St P s w H locs → lv_has ls 8 [(0, .ref (P.2.1 1)), (1, .long x1), (3, .int x3), (4, .int x4), (5, .int x5)] → W p l e (rmU 2 0 0) s m args below meth c H locs 0 0 (QI P (some .boolean) r w below args s) (F0 m 29 ls []) := by
        intro x3 x4 x5 h H locs ls hP hl
        unfold B_X0_isOddByCycles_29 at h
        refine lv_iload hx hb dX0_isOddByCycles_29 (lv_at hl 4 rfl) ?_
        refine lv_istore (lv' := [(6, .int x5), (0, .ref (P.2.1 1)), (1, .long x1), (3, .int x3), (4, .int x4), (5, .int x5)]) hx hb dX0_isOddByCycles_31 hl (by decide) rfl (fun ls hl => ?_)
        refine lv_iconst (v := 0) hx hb dX0_isOddByCycles_33 (by decide) ?_
        refine lv_istore (lv' := [(7, .int 0), (6, .int x5), (0, .ref (P.2.1 1)), (1, .long x1), (3, .int x3), (4, .int x4), (5, .int x5)]) hx hb dX0_isOddByCycles_34 hl (by decide) rfl (fun ls hl => ?_)
        exact hL36 _ _ fu _ _ _ h _ _ _ hP (lv_sub hl [2, 3, 4, 5, 6, 1, 0] rfl)
      unfold B_X0_isOddByCycles_8 at h
      refine lv_iload hx hb dX0_isOddByCycles_8 (lv_at hl 4 rfl) ?_
      refine lv_aload_n hx hb dX0_isOddByCycles_10 rfl (lv_at hl 0 rfl) ?_
      refine vu_i hP (vu_V S hF hP (h := 1) (hlt _ (by decide)) rfl (by decide) rfl (c_X0_places l P hA hn w) ok_X0_places ml_X0_46 ⟨Nat.le_of_ble_eq_true rfl, Nat.le_of_ble_eq_true rfl⟩ rfl hl.1 rfl (Nat.le_of_ble_eq_true rfl) dX0_isOddByCycles_11 ⟨Nat.le_of_ble_eq_true rfl, Nat.le_of_ble_eq_true rfl⟩) (fun H locs ho1 hP => ?_)
      refine lv_icmp_ge (tgt := 94) hx hb dX0_isOddByCycles_14 (by decide) (fun c11 => ?_) (fun c11 => ?_)
      · rw [if_pos c11] at h
        exact hB94 _ h _ _ _ hP (lv_sub hl [0, 3] rfl)
      · rw [if_neg c11] at h
        refine lv_iload_n hx hb dX0_isOddByCycles_17 rfl (lv_at hl 2 rfl) ?_
        refine lv_iload hx hb dX0_isOddByCycles_18 (lv_at hl 4 rfl) ?_
        refine lv_ishr hx hb dX0_isOddByCycles_20 ?_
        refine lv_iconst (v := 1) hx hb dX0_isOddByCycles_21 (by decide) ?_
        refine lv_iand hx hb dX0_isOddByCycles_22 ?_
        refine lv_if_ne (tgt := 29) hx hb dX0_isOddByCycles_23 (by decide) (fun c12 => ?_) (fun c12 => ?_)
        · rw [if_neg c12] at h
          exact hB29 _ _ _ h _ _ _ hP (lv_sub hl [0, 1, 2, 3, 4] rfl)
        · rw [if_pos c12] at h
          refine lv_iinc (v := (x4 + 1)) (lv' := [(4, .int (x4 + 1)), (0, .ref (P.2.1 1)), (1, .long x1), (3, .int x3), (5, .int x5)]) hx hb dX0_isOddByCycles_26 hl (k := 3) rfl rfl (by decide) rfl (fun ls hl => ?_)
          exact hB29 _ _ _ h _ _ _ hP (lv_sub hl [1, 2, 3, 0, 4] rfl)
  unfold F_X0_isOddByCycles at h
  refine lv_iconst (v := 0) hx hb dX0_isOddByCycles_0 (by decide) ?_
  refine lv_istore_n (lv' := [(3, .int 0), (0, .ref (P.2.1 1)), (1, .long x1)]) hx hb dX0_isOddByCycles_1 rfl hl (by decide) rfl (fun ls hl => ?_)
  refine lv_iconst (v := 0) hx hb dX0_isOddByCycles_2 (by decide) ?_
  refine lv_istore (lv' := [(4, .int 0), (3, .int 0), (0, .ref (P.2.1 1)), (1, .long x1)]) hx hb dX0_isOddByCycles_3 hl (by decide) rfl (fun ls hl => ?_)
  refine lv_iconst (v := 0) hx hb dX0_isOddByCycles_5 (by decide) ?_
  refine lv_istore (lv' := [(5, .int 0), (4, .int 0), (3, .int 0), (0, .ref (P.2.1 1)), (1, .long x1)]) hx hb dX0_isOddByCycles_6 hl (by decide) rfl (fun ls hl => ?_)
  exact hL8 _ fu _ _ _ h _ _ _ hP (lv_sub hl [3, 4, 2, 1, 0] rfl)
set_option maxRecDepth 100000 in
set_option maxHeartbeats 4000000 in
theorem c_X0_isBeyondReach (l : Launch) (P : Pl) (hA : Adr P) (hn : 26 ≤ P.2.2.2.1) (w : Wo) {r : Int32} (h : F_X0_isBeyondReach w = some r) : CtI l P yX0_isBeyondReach cX0_isBeyondReach 2 (some .boolean) 4 [.ref (P.2.1 1)] w r w := by
  have hlt : ∀ h, h < 26 → h < P.2.2.2.1 := fun h q => Nat.lt_of_lt_of_le q hn
  refine vs_met hA (by decide +kernel) (Nat.le_of_ble_eq_true rfl) (fun p e s m args below meth c ls S hF hP hl hr hk => ?_)
  have hx := S.1
  have hb := S.2.1
  replace hl : lv_has ls 2 [(0, .ref (P.2.1 1))] := hl
  have hB58 : ∀ (t0 : Int32), B_X0_isBeyondReach_58 w t0 = some r → ∀ (H : Heap) (locs : List Loc) (ls : Array Slot), St P s w H locs → lv_has ls 2 [(0, .ref (P.2.1 1))] → W p l e (rmU 4 0 0) s m args below meth c H locs 0 0 (QI P (some .boolean) r w below args s) (F0 m 58 ls [.int t0]) := by
    intro t0 h H locs ls hP hl
    unfold B_X0_isBeyondReach_58 at h
    refine lv_istore_n (lv' := [(1, .int t0), (0, .ref (P.2.1 1))]) hx hb dX0_isBeyondReach_58 rfl hl (by decide) rfl (fun ls hl => ?_)
    refine lv_iload_n hx hb dX0_isBeyondReach_59 rfl (lv_at hl 0 rfl) ?_
    refine lv_if_eq (tgt := 84) hx hb dX0_isBeyondReach_60 (by decide) (fun c12 => ?_) (fun c12 => ?_)
    · rw [if_pos c12] at h
      refine lv_iconst (v := 0) hx hb dX0_isBeyondReach_84 (by decide) ?_
      obtain rfl := Option.some.inj h
      exact ve_i (v := 0) S hF hP hr hk rfl dX0_isBeyondReach_85
    · rw [if_neg c12] at h
      refine lv_aload_n hx hb dX0_isBeyondReach_63 rfl (lv_at hl 1 rfl) ?_
      obtain ⟨q1, hq1, h⟩ := ob h
      refine vu_i hP (vu_V S hF hP (h := 1) (hlt _ (by decide)) rfl (by decide) rfl (c_X0_areAllUnlike l P hA hn w hq1) ok_X0_areAllUnlike ml_X0_115 ⟨Nat.le_of_ble_eq_true rfl, Nat.le_of_ble_eq_true rfl⟩ rfl hl.1 rfl (Nat.le_of_ble_eq_true rfl) dX0_isBeyondReach_64 ⟨Nat.le_of_ble_eq_true rfl, Nat.le_of_ble_eq_true rfl⟩) (fun H locs ho2 hP => ?_)
      refine lv_if_eq (tgt := 84) hx hb dX0_isBeyondReach_67 (by decide) (fun c13 => ?_) (fun c13 => ?_)
      · rw [if_pos c13] at h
        refine lv_iconst (v := 0) hx hb dX0_isBeyondReach_84 (by decide) ?_
        obtain rfl := Option.some.inj h
        exact ve_i (v := 0) S hF hP hr hk rfl dX0_isBeyondReach_85
      · rw [if_neg c13] at h
        refine lv_aload_n hx hb dX0_isBeyondReach_70 rfl (lv_at hl 1 rfl) ?_
        refine lv_aload_n hx hb dX0_isBeyondReach_71 rfl (lv_at hl 1 rfl) ?_
        refine vt_getL S hF hP (k := 3) (ci := 0) 1 (hlt _ (by decide)) rfl (by decide) rfl (by decide) rfl (inC_X0 _) (List.mem_cons_of_mem _ fl_X0_22) dX0_isBeyondReach_72 ?_
        refine lv_bipush (v := 12) hx hb dX0_isBeyondReach_75 (by decide) ?_
        obtain ⟨q3, hq3, h⟩ := ob h
        refine vu_i hP (vu_V S hF hP (h := 1) (hlt _ (by decide)) rfl (by decide) rfl (c_X0_count l P hA hn w (gL w 1 3) 12 hq3) ok_X0_count ml_X0_109 ⟨Nat.le_of_ble_eq_true rfl, Nat.le_of_ble_eq_true rfl⟩ rfl hl.1 rfl (Nat.le_of_ble_eq_true rfl) dX0_isBeyondReach_77 ⟨Nat.le_of_ble_eq_true rfl, Nat.le_of_ble_eq_true rfl⟩) (fun H locs ho4 hP => ?_)
        refine lv_iconst (v := 1) hx hb dX0_isBeyondReach_80 (by decide) ?_
        refine lv_icmp_le (tgt := 86) hx hb dX0_isBeyondReach_81 (by decide) (fun c14 => ?_) (fun c14 => ?_)
        · rw [if_pos c14] at h
          refine lv_aload_n hx hb dX0_isBeyondReach_86 rfl (lv_at hl 1 rfl) ?_
          refine lv_aload_n hx hb dX0_isBeyondReach_87 rfl (lv_at hl 1 rfl) ?_
          obtain ⟨q5, hq5, h⟩ := ob h
          refine vu_l hP (vu_V S hF hP (h := 1) (hlt _ (by decide)) rfl (by decide) rfl (c_X0_filledAim l P hA hn w hq5) ok_X0_filledAim ml_X0_118 ⟨Nat.le_of_ble_eq_true rfl, Nat.le_of_ble_eq_true rfl⟩ rfl hl.1 rfl (Nat.le_of_ble_eq_true rfl) dX0_isBeyondReach_88 ⟨Nat.le_of_ble_eq_true rfl, Nat.le_of_ble_eq_true rfl⟩) (fun H locs hP => ?_)
          obtain ⟨q6, hq6, h⟩ := ob h
          refine vu_i hP (vu_V S hF hP (h := 1) (hlt _ (by decide)) rfl (by decide) rfl (c_X0_isOddByCycles l P hA hn w q5 hq6) ok_X0_isOddByCycles ml_X0_122 ⟨Nat.le_of_ble_eq_true rfl, Nat.le_of_ble_eq_true rfl⟩ rfl hl.1 rfl (Nat.le_of_ble_eq_true rfl) dX0_isBeyondReach_91 ⟨Nat.le_of_ble_eq_true rfl, Nat.le_of_ble_eq_true rfl⟩) (fun H locs ho7 hP => ?_)
          obtain rfl := Option.some.inj h
          exact ve_i (v := q6) S hF hP hr hk ho7 dX0_isBeyondReach_94
        · rw [if_neg c14] at h
          refine lv_iconst (v := 0) hx hb dX0_isBeyondReach_84 (by decide) ?_
          obtain rfl := Option.some.inj h
          exact ve_i (v := 0) S hF hP hr hk rfl dX0_isBeyondReach_85
  have hB57 : B_X0_isBeyondReach_57 w = some r → ∀ (H : Heap) (locs : List Loc) (ls : Array Slot), St P s w H locs → lv_has ls 2 [(0, .ref (P.2.1 1))] → W p l e (rmU 4 0 0) s m args below meth c H locs 0 0 (QI P (some .boolean) r w below args s) (F0 m 57 ls []) := by
    intro h H locs ls hP hl
    unfold B_X0_isBeyondReach_57 at h
    refine lv_iconst (v := 0) hx hb dX0_isBeyondReach_57 (by decide) ?_
    exact hB58 _ h _ _ _ hP (lv_sub hl [0] rfl)
  have hB37 : B_X0_isBeyondReach_37 w = some r → ∀ (H : Heap) (locs : List Loc) (ls : Array Slot), St P s w H locs → lv_has ls 2 [(0, .ref (P.2.1 1))] → W p l e (rmU 4 0 0) s m args below meth c H locs 0 0 (QI P (some .boolean) r w below args s) (F0 m 37 ls []) := by
    intro h H locs ls hP hl
    unfold B_X0_isBeyondReach_37 at h
    refine lv_aload_n hx hb dX0_isBeyondReach_37 rfl (lv_at hl 0 rfl) ?_
    refine vt_getI S hF hP (k := 0) (ci := 0) 1 (hlt _ (by decide)) rfl (by decide) rfl (by decide) rfl (inC_X0 _) (List.mem_cons_of_mem _ fl_X0_9) dX0_isBeyondReach_38 ?_
    refine lv_iconst (v := 3) hx hb dX0_isBeyondReach_41 (by decide) ?_
    refine lv_icmp_ne (tgt := 57) hx hb dX0_isBeyondReach_42 (by decide) (fun c15 => ?_) (fun c15 => ?_)
    · rw [if_neg c15] at h
      exact hB57 h _ _ _ hP (lv_sub hl [0] rfl)
    · rw [if_pos c15] at h
      refine lv_aload_n hx hb dX0_isBeyondReach_45 rfl (lv_at hl 0 rfl) ?_
      refine vt_getI S hF hP (k := 1) (ci := 0) 1 (hlt _ (by decide)) rfl (by decide) rfl (by decide) rfl (inC_X0 _) (List.mem_cons_of_mem _ fl_X0_15) dX0_isBeyondReach_46 ?_
      refine lv_iconst (v := 3) hx hb dX0_isBeyondReach_49 (by decide) ?_
      refine lv_icmp_ne (tgt := 57) hx hb dX0_isBeyondReach_50 (by decide) (fun c16 => ?_) (fun c16 => ?_)
      · rw [if_neg c16] at h
        exact hB57 h _ _ _ hP (lv_sub hl [0] rfl)
      · rw [if_pos c16] at h
        refine lv_iconst (v := 1) hx hb dX0_isBeyondReach_53 (by decide) ?_
        refine lv_goto (tgt := 58) hx hb dX0_isBeyondReach_54 (by decide) ?_
        exact hB58 _ h _ _ _ hP (lv_sub hl [0] rfl)
  have hL2 : ∀ (n : Nat) (x1 : Int32), jl1 (B_X0_isBeyondReach_2 w) n x1 = some r → ∀ (H : Heap) (locs : List Loc) (ls : Array Slot), St P s w H locs → lv_has ls 2 [(0, .ref (P.2.1 1)), (1, .int x1)] → W p l e (rmU 4 0 0) s m args below meth c H locs 0 0 (QI P (some .boolean) r w below args s) (F0 m 2 ls []) := by
    intro n
    induction n with
    | zero =>
      intro x1 h
      cases h
    | succ n ih2 =>
      intro x1 h H locs ls hP hl
      replace h : B_X0_isBeyondReach_2 w (jl1 (B_X0_isBeyondReach_2 w) n) x1 = some r := h
      revert h ih2
      generalize jl1 (B_X0_isBeyondReach_2 w) n = k2
      intro ih2 h
      unfold B_X0_isBeyondReach_2 at h
      refine lv_iload_n hx hb dX0_isBeyondReach_2 rfl (lv_at hl 1 rfl) ?_
      refine lv_bipush (v := 12) hx hb dX0_isBeyondReach_3 (by decide) ?_
      refine lv_icmp_ge (tgt := 37) hx hb dX0_isBeyondReach_5 (by decide) (fun c17 => ?_) (fun c17 => ?_)
      · rw [if_pos c17] at h
        exact hB37 h _ _ _ hP (lv_sub hl [0] rfl)
      · rw [if_neg c17] at h
        refine lv_aload_n hx hb dX0_isBeyondReach_8 rfl (lv_at hl 0 rfl) ?_
        refine lv_aload_n hx hb dX0_isBeyondReach_9 rfl (lv_at hl 0 rfl) ?_
        refine vt_getL S hF hP (k := 3) (ci := 0) 1 (hlt _ (by decide)) rfl (by decide) rfl (by decide) rfl (inC_X0 _) (List.mem_cons_of_mem _ fl_X0_22) dX0_isBeyondReach_10 ?_
        refine lv_iload_n hx hb dX0_isBeyondReach_13 rfl (lv_at hl 1 rfl) ?_
        obtain ⟨q8, hq8, h⟩ := ob h
        refine vu_i hP (vu_V S hF hP (h := 1) (hlt _ (by decide)) rfl (by decide) rfl (c_X0_count l P hA hn w (gL w 1 3) x1 hq8) ok_X0_count ml_X0_109 ⟨Nat.le_of_ble_eq_true rfl, Nat.le_of_ble_eq_true rfl⟩ rfl hl.1 rfl (Nat.le_of_ble_eq_true rfl) dX0_isBeyondReach_14 ⟨Nat.le_of_ble_eq_true rfl, Nat.le_of_ble_eq_true rfl⟩) (fun H locs ho9 hP => ?_)
        refine lv_aload_n hx hb dX0_isBeyondReach_17 rfl (lv_at hl 0 rfl) ?_
        refine lv_aload_n hx hb dX0_isBeyondReach_18 rfl (lv_at hl 0 rfl) ?_
        refine vt_getL S hF hP (k := 2) (ci := 0) 1 (hlt _ (by decide)) rfl (by decide) rfl (by decide) rfl (inC_X0 _) (List.mem_cons_of_mem _ fl_X0_18) dX0_isBeyondReach_19 ?_
        refine lv_iload_n hx hb dX0_isBeyondReach_22 rfl (lv_at hl 1 rfl) ?_
        obtain ⟨q10, hq10, h⟩ := ob h
        refine vu_i hP (vu_V S hF hP (h := 1) (hlt _ (by decide)) rfl (by decide) rfl (c_X0_count l P hA hn w (gL w 1 2) x1 hq10) ok_X0_count ml_X0_109 ⟨Nat.le_of_ble_eq_true rfl, Nat.le_of_ble_eq_true rfl⟩ rfl hl.1 rfl (Nat.le_of_ble_eq_true rfl) dX0_isBeyondReach_23 ⟨Nat.le_of_ble_eq_true rfl, Nat.le_of_ble_eq_true rfl⟩) (fun H locs ho11 hP => ?_)
        refine lv_icmp_le (tgt := 31) hx hb dX0_isBeyondReach_26 (by decide) (fun c18 => ?_) (fun c18 => ?_)
        · rw [if_pos c18] at h
          refine lv_iinc (v := (x1 + 1)) (lv' := [(1, .int (x1 + 1)), (0, .ref (P.2.1 1))]) hx hb dX0_isBeyondReach_31 hl (k := 1) rfl rfl (by decide) rfl (fun ls hl => ?_)
          refine lv_goto (tgt := 2) hx hb dX0_isBeyondReach_34 (by decide) ?_
          exact ih2 _ h _ _ _ hP (lv_sub hl [1, 0] rfl)
        · rw [if_neg c18] at h
          refine lv_iconst (v := 1) hx hb dX0_isBeyondReach_29 (by decide) ?_
          obtain rfl := Option.some.inj h
          exact ve_i (v := 1) S hF hP hr hk rfl dX0_isBeyondReach_30
  unfold F_X0_isBeyondReach at h
  refine lv_iconst (v := 0) hx hb dX0_isBeyondReach_0 (by decide) ?_
  refine lv_istore_n (lv' := [(1, .int 0), (0, .ref (P.2.1 1))]) hx hb dX0_isBeyondReach_1 rfl hl (by decide) rfl (fun ls hl => ?_)
  exact hL2 fu _ h _ _ _ hP (lv_sub hl [1, 0] rfl)
set_option maxRecDepth 100000 in
set_option maxHeartbeats 4000000 in
theorem c_X5_judgeStep (l : Launch) (P : Pl) (hA : Adr P) (hn : 26 ≤ P.2.2.2.1) (w : Wo) {r : Int32 × Wo} (h : F_X5_judgeStep w = some r) : CtI l P yX5_judgeStep cX5_judgeStep 1 (some .int) 5 [.ref (P.2.1 0)] w r.1 r.2 := by
  have hlt : ∀ h, h < 26 → h < P.2.2.2.1 := fun h q => Nat.lt_of_lt_of_le q hn
  refine vs_met hA (by decide +kernel) (Nat.le_of_ble_eq_true rfl) (fun p e s m args below meth c ls S hF hP hl hr hk => ?_)
  have hx := S.1
  have hb := S.2.1
  replace hl : lv_has ls 1 [(0, .ref (P.2.1 0))] := hl
  unfold F_X5_judgeStep at h
  refine lv_aload_n hx hb dX5_judgeStep_0 rfl (lv_at hl 0 rfl) ?_
  refine vt_getR (r := 1) S hF hP (k := 0) (ci := 5) 0 (hlt _ (by decide)) rfl (by decide) rfl (by decide) rfl rfl (inC_X5 _) (List.mem_cons_of_mem _ fl_X5_12) dX5_judgeStep_1 ?_
  obtain ⟨q1, hq1, h⟩ := ob h
  refine vu_i hP (vu_V S hF hP (h := 1) (hlt _ (by decide)) rfl (by decide) rfl (c_X0_isReached l P hA hn w hq1) ok_X0_isReached ml_X5_356 ⟨Nat.le_of_ble_eq_true rfl, Nat.le_of_ble_eq_true rfl⟩ rfl hl.1 rfl (Nat.le_of_ble_eq_true rfl) dX5_judgeStep_4 ⟨Nat.le_of_ble_eq_true rfl, Nat.le_of_ble_eq_true rfl⟩) (fun H locs ho2 hP => ?_)
  refine lv_if_eq (tgt := 23) hx hb dX5_judgeStep_7 (by decide) (fun c13 => ?_) (fun c13 => ?_)
  · rw [if_pos c13] at h
    refine lv_aload_n hx hb dX5_judgeStep_23 rfl (lv_at hl 0 rfl) ?_
    refine vt_getR (r := 1) S hF hP (k := 0) (ci := 5) 0 (hlt _ (by decide)) rfl (by decide) rfl (by decide) rfl rfl (inC_X5 _) (List.mem_cons_of_mem _ fl_X5_12) dX5_judgeStep_24 ?_
    obtain ⟨q3, hq3, h⟩ := ob h
    refine vu_i hP (vu_V S hF hP (h := 1) (hlt _ (by decide)) rfl (by decide) rfl (c_X0_isBeyondReach l P hA hn w hq3) ok_X0_isBeyondReach ml_X5_187 ⟨Nat.le_of_ble_eq_true rfl, Nat.le_of_ble_eq_true rfl⟩ rfl hl.1 rfl (Nat.le_of_ble_eq_true rfl) dX5_judgeStep_27 ⟨Nat.le_of_ble_eq_true rfl, Nat.le_of_ble_eq_true rfl⟩) (fun H locs ho4 hP => ?_)
    refine lv_if_eq (tgt := 61) hx hb dX5_judgeStep_30 (by decide) (fun c14 => ?_) (fun c14 => ?_)
    · rw [if_pos c14] at h
      refine lv_iconst (v := 0) hx hb dX5_judgeStep_61 (by decide) ?_
      obtain rfl := Option.some.inj h
      exact ve_i (v := 0) S hF hP hr hk rfl dX5_judgeStep_62
    · rw [if_neg c14] at h
      refine lv_aload_n hx hb dX5_judgeStep_33 rfl (lv_at hl 0 rfl) ?_
      refine lv_iconst (v := 4) hx hb dX5_judgeStep_34 (by decide) ?_
      refine lv_aload_n hx hb dX5_judgeStep_35 rfl (lv_at hl 0 rfl) ?_
      refine vt_getR (r := 1) S hF hP (k := 0) (ci := 5) 0 (hlt _ (by decide)) rfl (by decide) rfl (by decide) rfl rfl (inC_X5 _) (List.mem_cons_of_mem _ fl_X5_12) dX5_judgeStep_36 ?_
      refine vu_i hP (vu_V S hF hP (h := 1) (hlt _ (by decide)) rfl (by decide) rfl (c_X0_places l P hA hn w) ok_X0_places ml_X5_79 ⟨Nat.le_of_ble_eq_true rfl, Nat.le_of_ble_eq_true rfl⟩ rfl hl.1 rfl (Nat.le_of_ble_eq_true rfl) dX5_judgeStep_39 ⟨Nat.le_of_ble_eq_true rfl, Nat.le_of_ble_eq_true rfl⟩) (fun H locs ho5 hP => ?_)
      refine lv_aload_n hx hb dX5_judgeStep_42 rfl (lv_at hl 0 rfl) ?_
      refine vt_getR (r := 1) S hF hP (k := 0) (ci := 5) 0 (hlt _ (by decide)) rfl (by decide) rfl (by decide) rfl rfl (inC_X5 _) (List.mem_cons_of_mem _ fl_X5_12) dX5_judgeStep_43 ?_
      refine lv_aload_n hx hb dX5_judgeStep_46 rfl (lv_at hl 0 rfl) ?_
      refine vt_getR (r := 1) S hF hP (k := 0) (ci := 5) 0 (hlt _ (by decide)) rfl (by decide) rfl (by decide) rfl rfl (inC_X5 _) (List.mem_cons_of_mem _ fl_X5_12) dX5_judgeStep_47 ?_
      refine vt_getL S hF hP (k := 2) (ci := 0) 1 (hlt _ (by decide)) rfl (by decide) rfl (by decide) rfl (inC_X0 _) (List.mem_cons_of_mem _ fl_X5_83) dX5_judgeStep_50 ?_
      obtain ⟨q6, hq6, h⟩ := ob h
      refine vu_i hP (vu_V S hF hP (h := 1) (hlt _ (by decide)) rfl (by decide) rfl (c_X0_atHome l P hA hn w (gL w 1 2) hq6) ok_X0_atHome ml_X5_102 ⟨Nat.le_of_ble_eq_true rfl, Nat.le_of_ble_eq_true rfl⟩ rfl hl.1 rfl (Nat.le_of_ble_eq_true rfl) dX5_judgeStep_53 ⟨Nat.le_of_ble_eq_true rfl, Nat.le_of_ble_eq_true rfl⟩) (fun H locs ho7 hP => ?_)
      refine lv_isub hx hb dX5_judgeStep_56 ?_
      obtain ⟨q8, hq8, h⟩ := ob h
      refine vu_i hP (vu_V S hF hP (h := 0) (hlt _ (by decide)) rfl (by decide) rfl (c_X5_refuse l P hA hn w 4 ((F_X0_places w) - q6) hq8) ok_X5_refuse ml_X5_350 ⟨Nat.le_of_ble_eq_true rfl, Nat.le_of_ble_eq_true rfl⟩ rfl hl.1 rfl (Nat.le_of_ble_eq_true rfl) dX5_judgeStep_57 ⟨Nat.le_of_ble_eq_true rfl, Nat.le_of_ble_eq_true rfl⟩) (fun H locs ho9 hP => ?_)
      obtain rfl := Option.some.inj h
      exact ve_i (v := q8.1) S hF hP hr hk rfl dX5_judgeStep_60
  · rw [if_neg c13] at h
    refine lv_aload_n hx hb dX5_judgeStep_10 rfl (lv_at hl 0 rfl) ?_
    refine lv_iconst (v := 5) hx hb dX5_judgeStep_11 (by decide) ?_
    refine lv_aload_n hx hb dX5_judgeStep_12 rfl (lv_at hl 0 rfl) ?_
    refine vt_getR (r := 1) S hF hP (k := 0) (ci := 5) 0 (hlt _ (by decide)) rfl (by decide) rfl (by decide) rfl rfl (inC_X5 _) (List.mem_cons_of_mem _ fl_X5_12) dX5_judgeStep_13 ?_
    refine vu_i hP (vu_V S hF hP (h := 1) (hlt _ (by decide)) rfl (by decide) rfl (c_X0_places l P hA hn w) ok_X0_places ml_X5_79 ⟨Nat.le_of_ble_eq_true rfl, Nat.le_of_ble_eq_true rfl⟩ rfl hl.1 rfl (Nat.le_of_ble_eq_true rfl) dX5_judgeStep_16 ⟨Nat.le_of_ble_eq_true rfl, Nat.le_of_ble_eq_true rfl⟩) (fun H locs ho10 hP => ?_)
    obtain ⟨q11, hq11, h⟩ := ob h
    refine vu_i hP (vu_V S hF hP (h := 0) (hlt _ (by decide)) rfl (by decide) rfl (c_X5_refuse l P hA hn w 5 (F_X0_places w) hq11) ok_X5_refuse ml_X5_350 ⟨Nat.le_of_ble_eq_true rfl, Nat.le_of_ble_eq_true rfl⟩ rfl hl.1 rfl (Nat.le_of_ble_eq_true rfl) dX5_judgeStep_19 ⟨Nat.le_of_ble_eq_true rfl, Nat.le_of_ble_eq_true rfl⟩) (fun H locs ho12 hP => ?_)
    obtain rfl := Option.some.inj h
    exact ve_i (v := q11.1) S hF hP hr hk rfl dX5_judgeStep_22
set_option maxRecDepth 100000 in
set_option maxHeartbeats 4000000 in
theorem c_X0_cares (l : Launch) (P : Pl) (hA : Adr P) (hn : 26 ≤ P.2.2.2.1) (w : Wo) {r : Int64} (h : F_X0_cares w = some r) : CtL l P yX0_cares cX0_cares 4 (some .long) 1 [.ref (P.2.1 1)] w r w := by
  have hlt : ∀ h, h < 26 → h < P.2.2.2.1 := fun h q => Nat.lt_of_lt_of_le q hn
  refine vs_met hA (by decide +kernel) (Nat.le_of_ble_eq_true rfl) (fun p e s m args below meth c ls S hF hP hl hr hk => ?_)
  have hx := S.1
  have hb := S.2.1
  replace hl : lv_has ls 4 [(0, .ref (P.2.1 1))] := hl
  have hL4 : ∀ (n : Nat) (x1 : Int64) (x3 : Int32), jl2 (B_X0_cares_4 w) n x1 x3 = some r → ∀ (H : Heap) (locs : List Loc) (ls : Array Slot), St P s w H locs → lv_has ls 4 [(0, .ref (P.2.1 1)), (1, .long x1), (3, .int x3)] → W p l e (rmU 1 0 0) s m args below meth c H locs 0 0 (QL P r w below args s) (F0 m 4 ls []) := by
    intro n
    induction n with
    | zero =>
      intro x1 x3 h
      cases h
    | succ n ih4 =>
      intro x1 x3 h H locs ls hP hl
      replace h : B_X0_cares_4 w (jl2 (B_X0_cares_4 w) n) x1 x3 = some r := h
      revert h ih4
      generalize jl2 (B_X0_cares_4 w) n = k4
      intro ih4 h
      have hB33 : ∀ (x1 : Int64) (x3 : Int32), B_X0_cares_33 k4 w x1 x3 = some r → ∀ (H : Heap) (locs : List Loc) (ls : Array Slot), St P s w H locs → lv_has ls 4 [(0, .ref (P.2.1 1)), (1, .long x1), (3, .int x3)] → W p l e (rmU 1 0 0) s m args below meth c H locs 0 0 (QL P r w below args s) (F0 m 33 ls []) := by
        intro x1 x3 h H locs ls hP hl
        unfold B_X0_cares_33 at h
        refine lv_iinc (v := (x3 + 1)) (lv' := [(3, .int (x3 + 1)), (0, .ref (P.2.1 1)), (1, .long x1)]) hx hb dX0_cares_33 hl (k := 2) rfl rfl (by decide) rfl (fun ls hl => ?_)
        refine lv_goto (tgt := 4) hx hb dX0_cares_36 (by decide) ?_
        exact ih4 _ _ h _ _ _ hP (lv_sub hl [1, 2, 0] rfl)
      unfold B_X0_cares_4 at h
      refine lv_iload_n hx hb dX0_cares_4 rfl (lv_at hl 2 rfl) ?_
      refine lv_aload_n hx hb dX0_cares_5 rfl (lv_at hl 0 rfl) ?_
      refine vu_i hP (vu_V S hF hP (h := 1) (hlt _ (by decide)) rfl (by decide) rfl (c_X0_places l P hA hn w) ok_X0_places ml_X0_46 ⟨Nat.le_of_ble_eq_true rfl, Nat.le_of_ble_eq_true rfl⟩ rfl hl.1 rfl (Nat.le_of_ble_eq_true rfl) dX0_cares_6 ⟨Nat.le_of_ble_eq_true rfl, Nat.le_of_ble_eq_true rfl⟩) (fun H locs ho1 hP => ?_)
      refine lv_icmp_ge (tgt := 39) hx hb dX0_cares_9 (by decide) (fun c3 => ?_) (fun c3 => ?_)
      · rw [if_pos c3] at h
        refine lv_lload_n hx hb dX0_cares_39 rfl (lv_at hl 1 rfl) ?_
        obtain rfl := Option.some.inj h
        exact ve_l S hF hP hr hk dX0_cares_40
      · rw [if_neg c3] at h
        refine lv_aload_n hx hb dX0_cares_12 rfl (lv_at hl 0 rfl) ?_
        refine vt_getL S hF hP (k := 3) (ci := 0) 1 (hlt _ (by decide)) rfl (by decide) rfl (by decide) rfl (inC_X0 _) (List.mem_cons_of_mem _ fl_X0_22) dX0_cares_13 ?_
        refine lv_iload_n hx hb dX0_cares_16 rfl (lv_at hl 2 rfl) ?_
        refine vu_i hP (vu_SN S hF hP (host := RX5) (c_X5_codeAt l P hA hn w (gL w 1 3) x3) ok_X5_codeAt (by decide +kernel) ⟨Nat.le_of_ble_eq_true rfl, Nat.le_of_ble_eq_true rfl⟩ rfl hl.1 rfl (Nat.le_of_ble_eq_true rfl) dX0_cares_17 ⟨Nat.le_of_ble_eq_true rfl, Nat.le_of_ble_eq_true rfl⟩) (fun H locs ho2 hP => ?_)
        refine lv_bipush (v := 12) hx hb dX0_cares_20 (by decide) ?_
        refine lv_icmp_eq (tgt := 33) hx hb dX0_cares_22 (by decide) (fun c4 => ?_) (fun c4 => ?_)
        · rw [if_pos c4] at h
          exact hB33 _ _ h _ _ _ hP (lv_sub hl [0, 1, 2] rfl)
        · rw [if_neg c4] at h
          refine lv_lload_n hx hb dX0_cares_25 rfl (lv_at hl 1 rfl) ?_
          refine lv_iload_n hx hb dX0_cares_26 rfl (lv_at hl 2 rfl) ?_
          refine lv_bipush (v := 15) hx hb dX0_cares_27 (by decide) ?_
          refine vu_l hP (vu_SN S hF hP (host := RX5) (c_X5_withCode l P hA hn w x1 x3 15) ok_X5_withCode (by decide +kernel) ⟨Nat.le_of_ble_eq_true rfl, Nat.le_of_ble_eq_true rfl⟩ rfl hl.1 rfl (Nat.le_of_ble_eq_true rfl) dX0_cares_29 ⟨Nat.le_of_ble_eq_true rfl, Nat.le_of_ble_eq_true rfl⟩) (fun H locs hP => ?_)
          refine lv_lstore_n (lv' := [(1, .long (F_X5_withCode x1 x3 15)), (0, .ref (P.2.1 1)), (3, .int x3)]) hx hb dX0_cares_32 rfl hl (by decide) rfl (fun ls hl => ?_)
          exact hB33 _ _ h _ _ _ hP (lv_sub hl [1, 0, 2] rfl)
  unfold F_X0_cares at h
  refine lv_lconst (v := 0) hx hb dX0_cares_0 (by decide) ?_
  refine lv_lstore_n (lv' := [(1, .long 0), (0, .ref (P.2.1 1))]) hx hb dX0_cares_1 rfl hl (by decide) rfl (fun ls hl => ?_)
  refine lv_iconst (v := 0) hx hb dX0_cares_2 (by decide) ?_
  refine lv_istore_n (lv' := [(3, .int 0), (1, .long 0), (0, .ref (P.2.1 1))]) hx hb dX0_cares_3 rfl hl (by decide) rfl (fun ls hl => ?_)
  exact hL4 fu _ _ h _ _ _ hP (lv_sub hl [2, 1, 0] rfl)
set_option maxRecDepth 100000 in
set_option maxHeartbeats 4000000 in
theorem c_X1_addGoal (l : Launch) (P : Pl) (hA : Adr P) (hn : 26 ≤ P.2.2.2.1) (w : Wo) (x1 : Int64) (x3 : Int64) {r : Wo} (h : F_X1_addGoal w x1 x3 = some r) : CtV l P yX1_addGoal cX1_addGoal 5 none 0 [.ref (P.2.1 14), .long x1, .long x3] w r := by
  have hlt : ∀ h, h < 26 → h < P.2.2.2.1 := fun h q => Nat.lt_of_lt_of_le q hn
  refine vs_met hA (by decide +kernel) (Nat.le_of_ble_eq_true rfl) (fun p e s m args below meth c ls S hF hP hl hr hk => ?_)
  have hx := S.1
  have hb := S.2.1
  replace hl : lv_has ls 5 [(0, .ref (P.2.1 14)), (1, .long x1), (3, .long x3)] := hl
  have hB51 : ∀ (w : Wo), B_X1_addGoal_51 w = some r → ∀ (H : Heap) (locs : List Loc) (ls : Array Slot), St P s w H locs → lv_has ls 5 [(0, .ref (P.2.1 14))] → W p l e (rmU 0 0 0) s m args below meth c H locs 0 0 (QV P r below args s) (F0 m 51 ls []) := by
    intro w h H locs ls hP hl
    unfold B_X1_addGoal_51 at h
    refine lv_aload_n hx hb dX1_addGoal_51 rfl (lv_at hl 0 rfl) ?_
    refine lv_dup hx hb dX1_addGoal_52 rfl ?_
    refine vt_getI S hF hP (k := 5) (ci := 1) 14 (hlt _ (by decide)) rfl (by decide) rfl (by decide) rfl (inC_X1 _) (List.mem_cons_of_mem _ fl_X1_29) dX1_addGoal_53 ?_
    refine lv_iconst (v := 1) hx hb dX1_addGoal_56 (by decide) ?_
    refine lv_iadd hx hb dX1_addGoal_57 ?_
    refine vt_putI S hF hP (k := 5) (ci := 1) 14 (hlt _ (by decide)) rfl (by decide) rfl (by decide) rfl tyX1 tyX1_ok nmX1 rfl rfl rfl rfl (by decide) (inC_X1 _) (List.mem_cons_of_mem _ fl_X1_29) dX1_addGoal_58 (fun H locs hP => ?_)
    obtain rfl := Option.some.inj h
    exact ve_v S hF hP hr hk dX1_addGoal_61
  have hB41 : ∀ (w : Wo) (x3 : Int64), B_X1_addGoal_41 w x3 = some r → ∀ (H : Heap) (locs : List Loc) (ls : Array Slot), St P s w H locs → lv_has ls 5 [(0, .ref (P.2.1 14)), (3, .long x3)] → W p l e (rmU 0 0 0) s m args below meth c H locs 0 0 (QV P r below args s) (F0 m 41 ls []) := by
    intro w x3 h H locs ls hP hl
    unfold B_X1_addGoal_41 at h
    refine lv_aload_n hx hb dX1_addGoal_41 rfl (lv_at hl 0 rfl) ?_
    refine vt_getR (r := 18) S hF hP (k := 3) (ci := 1) 14 (hlt _ (by decide)) rfl (by decide) rfl (by decide) rfl rfl (inC_X1 _) (List.mem_cons_of_mem _ fl_X1_22) dX1_addGoal_42 ?_
    refine lv_aload_n hx hb dX1_addGoal_45 rfl (lv_at hl 0 rfl) ?_
    refine vt_getI S hF hP (k := 5) (ci := 1) 14 (hlt _ (by decide)) rfl (by decide) rfl (by decide) rfl (inC_X1 _) (List.mem_cons_of_mem _ fl_X1_29) dX1_addGoal_46 ?_
    refine lv_lload_n hx hb dX1_addGoal_49 rfl (lv_at hl 1 rfl) ?_
    obtain ⟨c1, h⟩ := chk h
    refine vt_last S hF hP (hlt _ (by decide)) rfl c1 dX1_addGoal_50 (fun H locs hP => ?_)
    exact hB51 _ h _ _ _ hP (lv_sub hl [0] rfl)
  unfold F_X1_addGoal at h
  refine lv_aload_n hx hb dX1_addGoal_0 rfl (lv_at hl 0 rfl) ?_
  refine vt_getI S hF hP (k := 5) (ci := 1) 14 (hlt _ (by decide)) rfl (by decide) rfl (by decide) rfl (inC_X1 _) (List.mem_cons_of_mem _ fl_X1_29) dX1_addGoal_1 ?_
  refine lv_if_lt (tgt := 61) hx hb dX1_addGoal_4 (by decide) (fun c2 => ?_) (fun c2 => ?_)
  · rw [if_pos c2] at h
    obtain rfl := Option.some.inj h
    exact ve_v S hF hP hr hk dX1_addGoal_61
  · rw [if_neg c2] at h
    refine lv_aload_n hx hb dX1_addGoal_7 rfl (lv_at hl 0 rfl) ?_
    refine vt_getI S hF hP (k := 5) (ci := 1) 14 (hlt _ (by decide)) rfl (by decide) rfl (by decide) rfl (inC_X1 _) (List.mem_cons_of_mem _ fl_X1_29) dX1_addGoal_8 ?_
    refine lv_aload_n hx hb dX1_addGoal_11 rfl (lv_at hl 0 rfl) ?_
    refine vt_getR (r := 17) S hF hP (k := 2) (ci := 1) 14 (hlt _ (by decide)) rfl (by decide) rfl (by decide) rfl rfl (inC_X1 _) (List.mem_cons_of_mem _ fl_X1_19) dX1_addGoal_12 ?_
    refine vt_alen (v := 13) S hF hP (hlt _ (by decide)) rfl (by decide) rfl dX1_addGoal_15 ?_
    refine lv_icmp_ge (tgt := 61) hx hb dX1_addGoal_16 (by decide) (fun c3 => ?_) (fun c3 => ?_)
    · rw [if_pos c3] at h
      obtain rfl := Option.some.inj h
      exact ve_v S hF hP hr hk dX1_addGoal_61
    · rw [if_neg c3] at h
      refine lv_aload_n hx hb dX1_addGoal_19 rfl (lv_at hl 0 rfl) ?_
      refine vt_getI S hF hP (k := 5) (ci := 1) 14 (hlt _ (by decide)) rfl (by decide) rfl (by decide) rfl (inC_X1 _) (List.mem_cons_of_mem _ fl_X1_29) dX1_addGoal_20 ?_
      refine lv_aload_n hx hb dX1_addGoal_23 rfl (lv_at hl 0 rfl) ?_
      refine vt_getR (r := 18) S hF hP (k := 3) (ci := 1) 14 (hlt _ (by decide)) rfl (by decide) rfl (by decide) rfl rfl (inC_X1 _) (List.mem_cons_of_mem _ fl_X1_22) dX1_addGoal_24 ?_
      refine vt_alen (v := 13) S hF hP (hlt _ (by decide)) rfl (by decide) rfl dX1_addGoal_27 ?_
      refine lv_icmp_ge (tgt := 61) hx hb dX1_addGoal_28 (by decide) (fun c4 => ?_) (fun c4 => ?_)
      · rw [if_pos c4] at h
        obtain rfl := Option.some.inj h
        exact ve_v S hF hP hr hk dX1_addGoal_61
      · rw [if_neg c4] at h
        refine lv_aload_n hx hb dX1_addGoal_31 rfl (lv_at hl 0 rfl) ?_
        refine vt_getR (r := 17) S hF hP (k := 2) (ci := 1) 14 (hlt _ (by decide)) rfl (by decide) rfl (by decide) rfl rfl (inC_X1 _) (List.mem_cons_of_mem _ fl_X1_19) dX1_addGoal_32 ?_
        refine lv_aload_n hx hb dX1_addGoal_35 rfl (lv_at hl 0 rfl) ?_
        refine vt_getI S hF hP (k := 5) (ci := 1) 14 (hlt _ (by decide)) rfl (by decide) rfl (by decide) rfl (inC_X1 _) (List.mem_cons_of_mem _ fl_X1_29) dX1_addGoal_36 ?_
        refine lv_lload_n hx hb dX1_addGoal_39 rfl (lv_at hl 1 rfl) ?_
        obtain ⟨c5, h⟩ := chk h
        refine vt_last S hF hP (hlt _ (by decide)) rfl c5 dX1_addGoal_40 (fun H locs hP => ?_)
        exact hB41 _ _ h _ _ _ hP (lv_sub hl [0, 2] rfl)
set_option maxRecDepth 100000 in
set_option maxHeartbeats 4000000 in
theorem c_X1_takeGoalsBack (l : Launch) (P : Pl) (hA : Adr P) (hn : 26 ≤ P.2.2.2.1) (w : Wo) {r : Wo} (h : F_X1_takeGoalsBack w = some r) : CtV l P yX1_takeGoalsBack cX1_takeGoalsBack 5 none 2 [.ref (P.2.1 14), .ref (P.2.1 1)] w r := by
  have hlt : ∀ h, h < 26 → h < P.2.2.2.1 := fun h q => Nat.lt_of_lt_of_le q hn
  refine vs_met hA (by decide +kernel) (Nat.le_of_ble_eq_true rfl) (fun p e s m args below meth c ls S hF hP hl hr hk => ?_)
  have hx := S.1
  have hb := S.2.1
  replace hl : lv_has ls 5 [(0, .ref (P.2.1 14)), (1, .ref (P.2.1 1))] := hl
  have hL22 : ∀ (x2 : Int64) (n : Nat) (w : Wo) (x4 : Int32), jl2 (B_X1_takeGoalsBack_22 x2) n w x4 = some r → ∀ (H : Heap) (locs : List Loc) (ls : Array Slot), St P s w H locs → lv_has ls 5 [(0, .ref (P.2.1 14)), (1, .ref (P.2.1 1)), (2, .long x2), (4, .int x4)] → W p l e (rmU 2 0 0) s m args below meth c H locs 0 0 (QV P r below args s) (F0 m 22 ls []) := by
    intro x2
    intro n
    induction n with
    | zero =>
      intro w x4 h
      cases h
    | succ n ih22 =>
      intro w x4 h H locs ls hP hl
      replace h : B_X1_takeGoalsBack_22 x2 (jl2 (B_X1_takeGoalsBack_22 x2) n) w x4 = some r := h
      revert h ih22
      generalize jl2 (B_X1_takeGoalsBack_22 x2) n = k22
      intro ih22 h
      have hB65 : ∀ (w : Wo) (x4 : Int32), B_X1_takeGoalsBack_65 k22 w x2 x4 = some r → ∀ (H : Heap) (locs : List Loc) (ls : Array Slot), St P s w H locs → lv_has ls 5 [(0, .ref (P.2.1 14)), (1, .ref (P.2.1 1)), (2, .long x2), (4, .int x4)] → W p l e (rmU 2 0 0) s m args below meth c H locs 0 0 (QV P r below args s) (F0 m 65 ls []) := by
        intro w x4 h H locs ls hP hl
        unfold B_X1_takeGoalsBack_65 at h
        refine lv_iinc (v := (x4 + 1)) (lv' := [(4, .int (x4 + 1)), (0, .ref (P.2.1 14)), (1, .ref (P.2.1 1)), (2, .long x2)]) hx hb dX1_takeGoalsBack_65 hl (k := 3) rfl rfl (by decide) rfl (fun ls hl => ?_)
        refine lv_goto (tgt := 22) hx hb dX1_takeGoalsBack_68 (by decide) ?_
        exact ih22 _ _ h _ _ _ hP (lv_sub hl [1, 2, 3, 0] rfl)
      unfold B_X1_takeGoalsBack_22 at h
      refine lv_iload hx hb dX1_takeGoalsBack_22 (lv_at hl 3 rfl) ?_
      refine lv_aload_n hx hb dX1_takeGoalsBack_24 rfl (lv_at hl 1 rfl) ?_
      refine vu_i hP (vu_V S hF hP (h := 1) (hlt _ (by decide)) rfl (by decide) rfl (c_X0_turns l P hA hn w) ok_X0_turns ml_X1_70 ⟨Nat.le_of_ble_eq_true rfl, Nat.le_of_ble_eq_true rfl⟩ rfl hl.1 rfl (Nat.le_of_ble_eq_true rfl) dX1_takeGoalsBack_25 ⟨Nat.le_of_ble_eq_true rfl, Nat.le_of_ble_eq_true rfl⟩) (fun H locs ho3 hP => ?_)
      refine lv_icmp_ge (tgt := 71) hx hb dX1_takeGoalsBack_28 (by decide) (fun c9 => ?_) (fun c9 => ?_)
      · rw [if_pos c9] at h
        obtain rfl := Option.some.inj h
        exact ve_v S hF hP hr hk dX1_takeGoalsBack_71
      · rw [if_neg c9] at h
        refine lv_aload_n hx hb dX1_takeGoalsBack_31 rfl (lv_at hl 1 rfl) ?_
        refine lv_iload hx hb dX1_takeGoalsBack_32 (lv_at hl 3 rfl) ?_
        obtain ⟨q4, hq4, h⟩ := ob h
        refine vu_i hP (vu_V S hF hP (h := 1) (hlt _ (by decide)) rfl (by decide) rfl (c_X0_canTurn l P hA hn w x4 hq4) ok_X0_canTurn ml_X1_74 ⟨Nat.le_of_ble_eq_true rfl, Nat.le_of_ble_eq_true rfl⟩ rfl hl.1 rfl (Nat.le_of_ble_eq_true rfl) dX1_takeGoalsBack_34 ⟨Nat.le_of_ble_eq_true rfl, Nat.le_of_ble_eq_true rfl⟩) (fun H locs ho5 hP => ?_)
        refine lv_if_eq (tgt := 65) hx hb dX1_takeGoalsBack_37 (by decide) (fun c10 => ?_) (fun c10 => ?_)
        · rw [if_pos c10] at h
          exact hB65 _ _ h _ _ _ hP (lv_sub hl [0, 1, 2, 3] rfl)
        · rw [if_neg c10] at h
          refine lv_aload_n hx hb dX1_takeGoalsBack_40 rfl (lv_at hl 0 rfl) ?_
          refine lv_aload_n hx hb dX1_takeGoalsBack_41 rfl (lv_at hl 1 rfl) ?_
          refine lv_aload_n hx hb dX1_takeGoalsBack_42 rfl (lv_at hl 1 rfl) ?_
          refine vt_getL S hF hP (k := 3) (ci := 0) 1 (hlt _ (by decide)) rfl (by decide) rfl (by decide) rfl (inC_X0 _) (List.mem_cons_of_mem _ fl_X1_63) dX1_takeGoalsBack_43 ?_
          refine lv_iload hx hb dX1_takeGoalsBack_46 (lv_at hl 3 rfl) ?_
          refine lv_iconst (v := 1) hx hb dX1_takeGoalsBack_48 (by decide) ?_
          refine lv_ixor hx hb dX1_takeGoalsBack_49 ?_
          obtain ⟨q6, hq6, h⟩ := ob h
          refine vu_l hP (vu_V S hF hP (h := 1) (hlt _ (by decide)) rfl (by decide) rfl (c_X0_turned l P hA hn w (gL w 1 3) (x4 ^^^ (1 : Int32)) hq6) ok_X0_turned ml_X1_78 ⟨Nat.le_of_ble_eq_true rfl, Nat.le_of_ble_eq_true rfl⟩ rfl hl.1 rfl (Nat.le_of_ble_eq_true rfl) dX1_takeGoalsBack_50 ⟨Nat.le_of_ble_eq_true rfl, Nat.le_of_ble_eq_true rfl⟩) (fun H locs hP => ?_)
          refine lv_aload_n hx hb dX1_takeGoalsBack_53 rfl (lv_at hl 1 rfl) ?_
          refine lv_lload_n hx hb dX1_takeGoalsBack_54 rfl (lv_at hl 2 rfl) ?_
          refine lv_iload hx hb dX1_takeGoalsBack_55 (lv_at hl 3 rfl) ?_
          refine lv_iconst (v := 1) hx hb dX1_takeGoalsBack_57 (by decide) ?_
          refine lv_ixor hx hb dX1_takeGoalsBack_58 ?_
          obtain ⟨q7, hq7, h⟩ := ob h
          refine vu_l hP (vu_V S hF hP (h := 1) (hlt _ (by decide)) rfl (by decide) rfl (c_X0_turned l P hA hn w x2 (x4 ^^^ (1 : Int32)) hq7) ok_X0_turned ml_X1_78 ⟨Nat.le_of_ble_eq_true rfl, Nat.le_of_ble_eq_true rfl⟩ rfl hl.1 rfl (Nat.le_of_ble_eq_true rfl) dX1_takeGoalsBack_59 ⟨Nat.le_of_ble_eq_true rfl, Nat.le_of_ble_eq_true rfl⟩) (fun H locs hP => ?_)
          obtain ⟨q8, hq8, h⟩ := ob h
          refine vu_v hP (vu_V S hF hP (h := 14) (hlt _ (by decide)) rfl (by decide) rfl (c_X1_addGoal l P hA hn w q6 q7 hq8) ok_X1_addGoal ml_X1_66 ⟨Nat.le_of_ble_eq_true rfl, Nat.le_of_ble_eq_true rfl⟩ rfl hl.1 rfl (Nat.le_of_ble_eq_true rfl) dX1_takeGoalsBack_62 ⟨Nat.le_of_ble_eq_true rfl, Nat.le_of_ble_eq_true rfl⟩) (fun H locs hP => ?_)
          exact hB65 _ _ h _ _ _ hP (lv_sub hl [0, 1, 2, 3] rfl)
  have hB10 : ∀ (w : Wo) (x2 : Int64), B_X1_takeGoalsBack_10 w x2 = some r → ∀ (H : Heap) (locs : List Loc) (ls : Array Slot), St P s w H locs → lv_has ls 5 [(0, .ref (P.2.1 14)), (1, .ref (P.2.1 1)), (2, .long x2)] → W p l e (rmU 2 0 0) s m args below meth c H locs 0 0 (QV P r below args s) (F0 m 10 ls []) := by
    intro w x2 h H locs ls hP hl
    unfold B_X1_takeGoalsBack_10 at h
    refine lv_aload_n hx hb dX1_takeGoalsBack_10 rfl (lv_at hl 0 rfl) ?_
    refine lv_aload_n hx hb dX1_takeGoalsBack_11 rfl (lv_at hl 1 rfl) ?_
    refine vt_getL S hF hP (k := 3) (ci := 0) 1 (hlt _ (by decide)) rfl (by decide) rfl (by decide) rfl (inC_X0 _) (List.mem_cons_of_mem _ fl_X1_63) dX1_takeGoalsBack_12 ?_
    refine lv_lload_n hx hb dX1_takeGoalsBack_15 rfl (lv_at hl 2 rfl) ?_
    obtain ⟨q2, hq2, h⟩ := ob h
    refine vu_v hP (vu_V S hF hP (h := 14) (hlt _ (by decide)) rfl (by decide) rfl (c_X1_addGoal l P hA hn w (gL w 1 3) x2 hq2) ok_X1_addGoal ml_X1_66 ⟨Nat.le_of_ble_eq_true rfl, Nat.le_of_ble_eq_true rfl⟩ rfl hl.1 rfl (Nat.le_of_ble_eq_true rfl) dX1_takeGoalsBack_16 ⟨Nat.le_of_ble_eq_true rfl, Nat.le_of_ble_eq_true rfl⟩) (fun H locs hP => ?_)
    refine lv_iconst (v := 0) hx hb dX1_takeGoalsBack_19 (by decide) ?_
    refine lv_istore (lv' := [(4, .int 0), (0, .ref (P.2.1 14)), (1, .ref (P.2.1 1)), (2, .long x2)]) hx hb dX1_takeGoalsBack_20 hl (by decide) rfl (fun ls hl => ?_)
    exact hL22 _ fu _ _ h _ _ _ hP (lv_sub hl [1, 2, 3, 0] rfl)
  unfold F_X1_takeGoalsBack at h
  refine lv_aload_n hx hb dX1_takeGoalsBack_0 rfl (lv_at hl 1 rfl) ?_
  obtain ⟨q1, hq1, h⟩ := ob h
  refine vu_l hP (vu_V S hF hP (h := 1) (hlt _ (by decide)) rfl (by decide) rfl (c_X0_cares l P hA hn w hq1) ok_X0_cares ml_X1_60 ⟨Nat.le_of_ble_eq_true rfl, Nat.le_of_ble_eq_true rfl⟩ rfl hl.1 rfl (Nat.le_of_ble_eq_true rfl) dX1_takeGoalsBack_1 ⟨Nat.le_of_ble_eq_true rfl, Nat.le_of_ble_eq_true rfl⟩) (fun H locs hP => ?_)
  refine lv_lstore_n (lv' := [(2, .long q1), (0, .ref (P.2.1 14)), (1, .ref (P.2.1 1))]) hx hb dX1_takeGoalsBack_4 rfl hl (by decide) rfl (fun ls hl => ?_)
  refine lv_aload_n hx hb dX1_takeGoalsBack_5 rfl (lv_at hl 1 rfl) ?_
  refine lv_iconst (v := 0) hx hb dX1_takeGoalsBack_6 (by decide) ?_
  refine vt_putI S hF hP (k := 5) (ci := 1) 14 (hlt _ (by decide)) rfl (by decide) rfl (by decide) rfl tyX1 tyX1_ok nmX1 rfl rfl rfl rfl (by decide) (inC_X1 _) (List.mem_cons_of_mem _ fl_X1_29) dX1_takeGoalsBack_7 (fun H locs hP => ?_)
  exact hB10 _ _ h _ _ _ hP (lv_sub hl [1, 2, 0] rfl)
set_option maxRecDepth 100000 in
set_option maxHeartbeats 4000000 in
theorem c_X1_addBoard (l : Launch) (P : Pl) (hA : Adr P) (hn : 26 ≤ P.2.2.2.1) (w : Wo) (x1 : Int64) (x3 : Int32) {r : Wo} (h : F_X1_addBoard w x1 x3 = some r) : CtV l P yX1_addBoard cX1_addBoard 4 none 0 [.ref (P.2.1 14), .long x1, .int x3] w r := by
  have hlt : ∀ h, h < 26 → h < P.2.2.2.1 := fun h q => Nat.lt_of_lt_of_le q hn
  refine vs_met hA (by decide +kernel) (Nat.le_of_ble_eq_true rfl) (fun p e s m args below meth c ls S hF hP hl hr hk => ?_)
  have hx := S.1
  have hb := S.2.1
  replace hl : lv_has ls 4 [(0, .ref (P.2.1 14)), (1, .long x1), (3, .int x3)] := hl
  have hB51 : ∀ (w : Wo), B_X1_addBoard_51 w = some r → ∀ (H : Heap) (locs : List Loc) (ls : Array Slot), St P s w H locs → lv_has ls 4 [(0, .ref (P.2.1 14))] → W p l e (rmU 0 0 0) s m args below meth c H locs 0 0 (QV P r below args s) (F0 m 51 ls []) := by
    intro w h H locs ls hP hl
    unfold B_X1_addBoard_51 at h
    refine lv_aload_n hx hb dX1_addBoard_51 rfl (lv_at hl 0 rfl) ?_
    refine lv_dup hx hb dX1_addBoard_52 rfl ?_
    refine vt_getI S hF hP (k := 4) (ci := 1) 14 (hlt _ (by decide)) rfl (by decide) rfl (by decide) rfl (inC_X1 _) (List.mem_cons_of_mem _ fl_X1_25) dX1_addBoard_53 ?_
    refine lv_iconst (v := 1) hx hb dX1_addBoard_56 (by decide) ?_
    refine lv_iadd hx hb dX1_addBoard_57 ?_
    refine vt_putI S hF hP (k := 4) (ci := 1) 14 (hlt _ (by decide)) rfl (by decide) rfl (by decide) rfl tyX1 tyX1_ok nmX1 rfl rfl rfl rfl (by decide) (inC_X1 _) (List.mem_cons_of_mem _ fl_X1_25) dX1_addBoard_58 (fun H locs hP => ?_)
    obtain rfl := Option.some.inj h
    exact ve_v S hF hP hr hk dX1_addBoard_61
  have hB41 : ∀ (w : Wo) (x3 : Int32), B_X1_addBoard_41 w x3 = some r → ∀ (H : Heap) (locs : List Loc) (ls : Array Slot), St P s w H locs → lv_has ls 4 [(0, .ref (P.2.1 14)), (3, .int x3)] → W p l e (rmU 0 0 0) s m args below meth c H locs 0 0 (QV P r below args s) (F0 m 41 ls []) := by
    intro w x3 h H locs ls hP hl
    unfold B_X1_addBoard_41 at h
    refine lv_aload_n hx hb dX1_addBoard_41 rfl (lv_at hl 0 rfl) ?_
    refine vt_getR (r := 16) S hF hP (k := 1) (ci := 1) 14 (hlt _ (by decide)) rfl (by decide) rfl (by decide) rfl rfl (inC_X1 _) (List.mem_cons_of_mem _ fl_X1_15) dX1_addBoard_42 ?_
    refine lv_aload_n hx hb dX1_addBoard_45 rfl (lv_at hl 0 rfl) ?_
    refine vt_getI S hF hP (k := 4) (ci := 1) 14 (hlt _ (by decide)) rfl (by decide) rfl (by decide) rfl (inC_X1 _) (List.mem_cons_of_mem _ fl_X1_25) dX1_addBoard_46 ?_
    refine lv_iload_n hx hb dX1_addBoard_49 rfl (lv_at hl 1 rfl) ?_
    obtain ⟨c1, h⟩ := chk h
    refine vt_iast S hF hP (hlt _ (by decide)) rfl c1 dX1_addBoard_50 (fun H locs hP => ?_)
    exact hB51 _ h _ _ _ hP (lv_sub hl [0] rfl)
  unfold F_X1_addBoard at h
  refine lv_aload_n hx hb dX1_addBoard_0 rfl (lv_at hl 0 rfl) ?_
  refine vt_getI S hF hP (k := 4) (ci := 1) 14 (hlt _ (by decide)) rfl (by decide) rfl (by decide) rfl (inC_X1 _) (List.mem_cons_of_mem _ fl_X1_25) dX1_addBoard_1 ?_
  refine lv_if_lt (tgt := 61) hx hb dX1_addBoard_4 (by decide) (fun c2 => ?_) (fun c2 => ?_)
  · rw [if_pos c2] at h
    obtain rfl := Option.some.inj h
    exact ve_v S hF hP hr hk dX1_addBoard_61
  · rw [if_neg c2] at h
    refine lv_aload_n hx hb dX1_addBoard_7 rfl (lv_at hl 0 rfl) ?_
    refine vt_getI S hF hP (k := 4) (ci := 1) 14 (hlt _ (by decide)) rfl (by decide) rfl (by decide) rfl (inC_X1 _) (List.mem_cons_of_mem _ fl_X1_25) dX1_addBoard_8 ?_
    refine lv_aload_n hx hb dX1_addBoard_11 rfl (lv_at hl 0 rfl) ?_
    refine vt_getR (r := 15) S hF hP (k := 0) (ci := 1) 14 (hlt _ (by decide)) rfl (by decide) rfl (by decide) rfl rfl (inC_X1 _) (List.mem_cons_of_mem _ fl_X1_9) dX1_addBoard_12 ?_
    refine vt_alen (v := 157) S hF hP (hlt _ (by decide)) rfl (by decide) rfl dX1_addBoard_15 ?_
    refine lv_icmp_ge (tgt := 61) hx hb dX1_addBoard_16 (by decide) (fun c3 => ?_) (fun c3 => ?_)
    · rw [if_pos c3] at h
      obtain rfl := Option.some.inj h
      exact ve_v S hF hP hr hk dX1_addBoard_61
    · rw [if_neg c3] at h
      refine lv_aload_n hx hb dX1_addBoard_19 rfl (lv_at hl 0 rfl) ?_
      refine vt_getI S hF hP (k := 4) (ci := 1) 14 (hlt _ (by decide)) rfl (by decide) rfl (by decide) rfl (inC_X1 _) (List.mem_cons_of_mem _ fl_X1_25) dX1_addBoard_20 ?_
      refine lv_aload_n hx hb dX1_addBoard_23 rfl (lv_at hl 0 rfl) ?_
      refine vt_getR (r := 16) S hF hP (k := 1) (ci := 1) 14 (hlt _ (by decide)) rfl (by decide) rfl (by decide) rfl rfl (inC_X1 _) (List.mem_cons_of_mem _ fl_X1_15) dX1_addBoard_24 ?_
      refine vt_alen (v := 157) S hF hP (hlt _ (by decide)) rfl (by decide) rfl dX1_addBoard_27 ?_
      refine lv_icmp_ge (tgt := 61) hx hb dX1_addBoard_28 (by decide) (fun c4 => ?_) (fun c4 => ?_)
      · rw [if_pos c4] at h
        obtain rfl := Option.some.inj h
        exact ve_v S hF hP hr hk dX1_addBoard_61
      · rw [if_neg c4] at h
        refine lv_aload_n hx hb dX1_addBoard_31 rfl (lv_at hl 0 rfl) ?_
        refine vt_getR (r := 15) S hF hP (k := 0) (ci := 1) 14 (hlt _ (by decide)) rfl (by decide) rfl (by decide) rfl rfl (inC_X1 _) (List.mem_cons_of_mem _ fl_X1_9) dX1_addBoard_32 ?_
        refine lv_aload_n hx hb dX1_addBoard_35 rfl (lv_at hl 0 rfl) ?_
        refine vt_getI S hF hP (k := 4) (ci := 1) 14 (hlt _ (by decide)) rfl (by decide) rfl (by decide) rfl (inC_X1 _) (List.mem_cons_of_mem _ fl_X1_25) dX1_addBoard_36 ?_
        refine lv_lload_n hx hb dX1_addBoard_39 rfl (lv_at hl 1 rfl) ?_
        obtain ⟨c5, h⟩ := chk h
        refine vt_last S hF hP (hlt _ (by decide)) rfl c5 dX1_addBoard_40 (fun H locs hP => ?_)
        exact hB41 _ _ h _ _ _ hP (lv_sub hl [0, 2] rfl)
set_option maxRecDepth 100000 in
set_option maxHeartbeats 4000000 in
theorem c_X1_spread (l : Launch) (P : Pl) (hA : Adr P) (hn : 26 ≤ P.2.2.2.1) (w : Wo) (x2 : Int32) (x3 : Int32) {r : Wo} (h : F_X1_spread w x2 x3 = some r) : CtV l P yX1_spread cX1_spread 6 none 2 [.ref (P.2.1 14), .ref (P.2.1 1), .int x2, .int x3] w r := by
  have hlt : ∀ h, h < 26 → h < P.2.2.2.1 := fun h q => Nat.lt_of_lt_of_le q hn
  refine vs_met hA (by decide +kernel) (Nat.le_of_ble_eq_true rfl) (fun p e s m args below meth c ls S hF hP hl hr hk => ?_)
  have hx := S.1
  have hb := S.2.1
  replace hl : lv_has ls 6 [(0, .ref (P.2.1 14)), (1, .ref (P.2.1 1)), (2, .int x2), (3, .int x3)] := hl
  have hL3 : ∀ (x3 : Int32) (n : Nat) (w : Wo) (x4 : Int32), jl2 (B_X1_spread_3 x3) n w x4 = some r → ∀ (H : Heap) (locs : List Loc) (ls : Array Slot), St P s w H locs → lv_has ls 6 [(0, .ref (P.2.1 14)), (1, .ref (P.2.1 1)), (3, .int x3), (4, .int x4)] → W p l e (rmU 2 0 0) s m args below meth c H locs 0 0 (QV P r below args s) (F0 m 3 ls []) := by
    intro x3
    intro n
    induction n with
    | zero =>
      intro w x4 h
      cases h
    | succ n ih3 =>
      intro w x4 h H locs ls hP hl
      replace h : B_X1_spread_3 x3 (jl2 (B_X1_spread_3 x3) n) w x4 = some r := h
      revert h ih3
      generalize jl2 (B_X1_spread_3 x3) n = k3
      intro ih3 h
      have hB100 : ∀ (w : Wo) (x4 : Int32), B_X1_spread_100 k3 w x3 x4 = some r → ∀ (H : Heap) (locs : List Loc) (ls : Array Slot), St P s w H locs → lv_has ls 6 [(0, .ref (P.2.1 14)), (1, .ref (P.2.1 1)), (3, .int x3), (4, .int x4)] → W p l e (rmU 2 0 0) s m args below meth c H locs 0 0 (QV P r below args s) (F0 m 100 ls []) := by
        intro w x4 h H locs ls hP hl
        unfold B_X1_spread_100 at h
        refine lv_iinc (v := (x4 + 1)) (lv' := [(4, .int (x4 + 1)), (0, .ref (P.2.1 14)), (1, .ref (P.2.1 1)), (3, .int x3)]) hx hb dX1_spread_100 hl (k := 3) rfl rfl (by decide) rfl (fun ls hl => ?_)
        refine lv_goto (tgt := 3) hx hb dX1_spread_103 (by decide) ?_
        exact ih3 _ _ h _ _ _ hP (lv_sub hl [1, 2, 3, 0] rfl)
      have hL37 : ∀ (x4 : Int32) (n : Nat) (w : Wo) (x5 : Int32), jl2 (B_X1_spread_37 k3 x3 x4) n w x5 = some r → ∀ (H : Heap) (locs : List Loc) (ls : Array Slot), St P s w H locs → lv_has ls 6 [(0, .ref (P.2.1 14)), (1, .ref (P.2.1 1)), (3, .int x3), (4, .int x4), (5, .int x5)] → W p l e (rmU 2 0 0) s m args below meth c H locs 0 0 (QV P r below args s) (F0 m 37 ls []) := by
        intro x4
        intro n
        induction n with
        | zero =>
          intro w x5 h
          cases h
        | succ n ih37 =>
          intro w x5 h H locs ls hP hl
          replace h : B_X1_spread_37 k3 x3 x4 (jl2 (B_X1_spread_37 k3 x3 x4) n) w x5 = some r := h
          revert h ih37
          generalize jl2 (B_X1_spread_37 k3 x3 x4) n = k37
          intro ih37 h
          have hB94 : ∀ (w : Wo) (x5 : Int32), B_X1_spread_94 k3 k37 w x3 x4 x5 = some r → ∀ (H : Heap) (locs : List Loc) (ls : Array Slot), St P s w H locs → lv_has ls 6 [(0, .ref (P.2.1 14)), (1, .ref (P.2.1 1)), (3, .int x3), (4, .int x4), (5, .int x5)] → W p l e (rmU 2 0 0) s m args below meth c H locs 0 0 (QV P r below args s) (F0 m 94 ls []) := by
            intro w x5 h H locs ls hP hl
            unfold B_X1_spread_94 at h
            refine lv_iinc (v := (x5 + 1)) (lv' := [(5, .int (x5 + 1)), (0, .ref (P.2.1 14)), (1, .ref (P.2.1 1)), (3, .int x3), (4, .int x4)]) hx hb dX1_spread_94 hl (k := 4) rfl rfl (by decide) rfl (fun ls hl => ?_)
            refine lv_goto (tgt := 37) hx hb dX1_spread_97 (by decide) ?_
            exact ih37 _ _ h _ _ _ hP (lv_sub hl [1, 2, 3, 4, 0] rfl)
          have hB91 : ∀ (w : Wo) (x5 : Int32) (t0 : Int32) (t1 : Int64), B_X1_spread_91 k3 k37 w x3 x4 x5 t0 t1 = some r → ∀ (H : Heap) (locs : List Loc) (ls : Array Slot), St P s w H locs → lv_has ls 6 [(0, .ref (P.2.1 14)), (1, .ref (P.2.1 1)), (3, .int x3), (4, .int x4), (5, .int x5)] → W p l e (rmU 2 0 0) s m args below meth c H locs 0 0 (QV P r below args s) (F0 m 91 ls [.int t0, .long t1, .ref (P.2.1 14)]) := by
            intro w x5 t0 t1 h H locs ls hP hl
            unfold B_X1_spread_91 at h
            obtain ⟨q5, hq5, h⟩ := ob h
            refine vu_v hP (vu_V S hF hP (h := 14) (hlt _ (by decide)) rfl (by decide) rfl (c_X1_addBoard l P hA hn w t1 t0 hq5) ok_X1_addBoard ml_X1_48 ⟨Nat.le_of_ble_eq_true rfl, Nat.le_of_ble_eq_true rfl⟩ rfl hl.1 rfl (Nat.le_of_ble_eq_true rfl) dX1_spread_91 ⟨Nat.le_of_ble_eq_true rfl, Nat.le_of_ble_eq_true rfl⟩) (fun H locs hP => ?_)
            exact hB94 _ _ h _ _ _ hP (lv_sub hl [0, 1, 2, 3, 4] rfl)
          unfold B_X1_spread_37 at h
          refine lv_iload hx hb dX1_spread_37 (lv_at hl 4 rfl) ?_
          refine lv_aload_n hx hb dX1_spread_39 rfl (lv_at hl 1 rfl) ?_
          refine vu_i hP (vu_V S hF hP (h := 1) (hlt _ (by decide)) rfl (by decide) rfl (c_X0_turns l P hA hn w) ok_X0_turns ml_X1_70 ⟨Nat.le_of_ble_eq_true rfl, Nat.le_of_ble_eq_true rfl⟩ rfl hl.1 rfl (Nat.le_of_ble_eq_true rfl) dX1_spread_40 ⟨Nat.le_of_ble_eq_true rfl, Nat.le_of_ble_eq_true rfl⟩) (fun H locs ho1 hP => ?_)
          refine lv_icmp_ge (tgt := 100) hx hb dX1_spread_43 (by decide) (fun c6 => ?_) (fun c6 => ?_)
          · rw [if_pos c6] at h
            exact hB100 _ _ h _ _ _ hP (lv_sub hl [0, 1, 2, 3] rfl)
          · rw [if_neg c6] at h
            refine lv_aload_n hx hb dX1_spread_46 rfl (lv_at hl 1 rfl) ?_
            refine lv_iload hx hb dX1_spread_47 (lv_at hl 4 rfl) ?_
            obtain ⟨q2, hq2, h⟩ := ob h
            refine vu_i hP (vu_V S hF hP (h := 1) (hlt _ (by decide)) rfl (by decide) rfl (c_X0_canTurn l P hA hn w x5 hq2) ok_X0_canTurn ml_X1_74 ⟨Nat.le_of_ble_eq_true rfl, Nat.le_of_ble_eq_true rfl⟩ rfl hl.1 rfl (Nat.le_of_ble_eq_true rfl) dX1_spread_49 ⟨Nat.le_of_ble_eq_true rfl, Nat.le_of_ble_eq_true rfl⟩) (fun H locs ho3 hP => ?_)
            refine lv_if_eq (tgt := 94) hx hb dX1_spread_52 (by decide) (fun c7 => ?_) (fun c7 => ?_)
            · rw [if_pos c7] at h
              exact hB94 _ _ h _ _ _ hP (lv_sub hl [0, 1, 2, 3, 4] rfl)
            · rw [if_neg c7] at h
              refine lv_aload_n hx hb dX1_spread_55 rfl (lv_at hl 0 rfl) ?_
              refine lv_aload_n hx hb dX1_spread_56 rfl (lv_at hl 1 rfl) ?_
              refine lv_aload_n hx hb dX1_spread_57 rfl (lv_at hl 0 rfl) ?_
              refine vt_getR (r := 15) S hF hP (k := 0) (ci := 1) 14 (hlt _ (by decide)) rfl (by decide) rfl (by decide) rfl rfl (inC_X1 _) (List.mem_cons_of_mem _ fl_X1_9) dX1_spread_58 ?_
              refine lv_iload hx hb dX1_spread_61 (lv_at hl 3 rfl) ?_
              obtain ⟨c8, h⟩ := chk h
              refine vt_lald S hF hP (hlt _ (by decide)) rfl c8 dX1_spread_63 ?_
              refine lv_iload hx hb dX1_spread_64 (lv_at hl 4 rfl) ?_
              obtain ⟨q4, hq4, h⟩ := ob h
              refine vu_l hP (vu_V S hF hP (h := 1) (hlt _ (by decide)) rfl (by decide) rfl (c_X0_turned l P hA hn w (gL w 15 (Int32.toNatClampNeg x4)) x5 hq4) ok_X0_turned ml_X1_78 ⟨Nat.le_of_ble_eq_true rfl, Nat.le_of_ble_eq_true rfl⟩ rfl hl.1 rfl (Nat.le_of_ble_eq_true rfl) dX1_spread_66 ⟨Nat.le_of_ble_eq_true rfl, Nat.le_of_ble_eq_true rfl⟩) (fun H locs hP => ?_)
              refine lv_aload_n hx hb dX1_spread_69 rfl (lv_at hl 0 rfl) ?_
              refine vt_getR (r := 16) S hF hP (k := 1) (ci := 1) 14 (hlt _ (by decide)) rfl (by decide) rfl (by decide) rfl rfl (inC_X1 _) (List.mem_cons_of_mem _ fl_X1_15) dX1_spread_70 ?_
              refine lv_iload hx hb dX1_spread_73 (lv_at hl 3 rfl) ?_
              obtain ⟨c9, h⟩ := chk h
              refine vt_iald S hF hP (hlt _ (by decide)) rfl c9 dX1_spread_75 ?_
              refine lv_if_ge (tgt := 84) hx hb dX1_spread_76 (by decide) (fun c10 => ?_) (fun c10 => ?_)
              · rw [if_pos c10] at h
                refine lv_aload_n hx hb dX1_spread_84 rfl (lv_at hl 0 rfl) ?_
                refine vt_getR (r := 16) S hF hP (k := 1) (ci := 1) 14 (hlt _ (by decide)) rfl (by decide) rfl (by decide) rfl rfl (inC_X1 _) (List.mem_cons_of_mem _ fl_X1_15) dX1_spread_85 ?_
                refine lv_iload hx hb dX1_spread_88 (lv_at hl 3 rfl) ?_
                obtain ⟨c11, h⟩ := chk h
                refine vt_iald S hF hP (hlt _ (by decide)) rfl c11 dX1_spread_90 ?_
                exact hB91 _ _ _ _ h _ _ _ hP (lv_sub hl [0, 1, 2, 3, 4] rfl)
              · rw [if_neg c10] at h
                refine lv_iload hx hb dX1_spread_79 (lv_at hl 4 rfl) ?_
                refine lv_goto (tgt := 91) hx hb dX1_spread_81 (by decide) ?_
                exact hB91 _ _ _ _ h _ _ _ hP (lv_sub hl [0, 1, 2, 3, 4] rfl)
      unfold B_X1_spread_3 at h
      refine lv_iload hx hb dX1_spread_3 (lv_at hl 3 rfl) ?_
      refine lv_iload_n hx hb dX1_spread_5 rfl (lv_at hl 2 rfl) ?_
      refine lv_icmp_ge (tgt := 106) hx hb dX1_spread_6 (by decide) (fun c12 => ?_) (fun c12 => ?_)
      · rw [if_pos c12] at h
        obtain rfl := Option.some.inj h
        exact ve_v S hF hP hr hk dX1_spread_106
      · rw [if_neg c12] at h
        refine lv_iload hx hb dX1_spread_9 (lv_at hl 3 rfl) ?_
        refine lv_if_lt (tgt := 106) hx hb dX1_spread_11 (by decide) (fun c13 => ?_) (fun c13 => ?_)
        · rw [if_pos c13] at h
          obtain rfl := Option.some.inj h
          exact ve_v S hF hP hr hk dX1_spread_106
        · rw [if_neg c13] at h
          refine lv_iload hx hb dX1_spread_14 (lv_at hl 3 rfl) ?_
          refine lv_aload_n hx hb dX1_spread_16 rfl (lv_at hl 0 rfl) ?_
          refine vt_getR (r := 15) S hF hP (k := 0) (ci := 1) 14 (hlt _ (by decide)) rfl (by decide) rfl (by decide) rfl rfl (inC_X1 _) (List.mem_cons_of_mem _ fl_X1_9) dX1_spread_17 ?_
          refine vt_alen (v := 157) S hF hP (hlt _ (by decide)) rfl (by decide) rfl dX1_spread_20 ?_
          refine lv_icmp_ge (tgt := 106) hx hb dX1_spread_21 (by decide) (fun c14 => ?_) (fun c14 => ?_)
          · rw [if_pos c14] at h
            obtain rfl := Option.some.inj h
            exact ve_v S hF hP hr hk dX1_spread_106
          · rw [if_neg c14] at h
            refine lv_iload hx hb dX1_spread_24 (lv_at hl 3 rfl) ?_
            refine lv_aload_n hx hb dX1_spread_26 rfl (lv_at hl 0 rfl) ?_
            refine vt_getR (r := 16) S hF hP (k := 1) (ci := 1) 14 (hlt _ (by decide)) rfl (by decide) rfl (by decide) rfl rfl (inC_X1 _) (List.mem_cons_of_mem _ fl_X1_15) dX1_spread_27 ?_
            refine vt_alen (v := 157) S hF hP (hlt _ (by decide)) rfl (by decide) rfl dX1_spread_30 ?_
            refine lv_icmp_ge (tgt := 106) hx hb dX1_spread_31 (by decide) (fun c15 => ?_) (fun c15 => ?_)
            · rw [if_pos c15] at h
              obtain rfl := Option.some.inj h
              exact ve_v S hF hP hr hk dX1_spread_106
            · rw [if_neg c15] at h
              refine lv_iconst (v := 0) hx hb dX1_spread_34 (by decide) ?_
              refine lv_istore (lv' := [(5, .int 0), (0, .ref (P.2.1 14)), (1, .ref (P.2.1 1)), (3, .int x3), (4, .int x4)]) hx hb dX1_spread_35 hl (by decide) rfl (fun ls hl => ?_)
              exact hL37 _ fu _ _ h _ _ _ hP (lv_sub hl [1, 2, 3, 4, 0] rfl)
  unfold F_X1_spread at h
  refine lv_iload_n hx hb dX1_spread_0 rfl (lv_at hl 2 rfl) ?_
  refine lv_istore (lv' := [(4, .int x2), (0, .ref (P.2.1 14)), (1, .ref (P.2.1 1)), (2, .int x2), (3, .int x3)]) hx hb dX1_spread_1 hl (by decide) rfl (fun ls hl => ?_)
  exact hL3 _ fu _ _ h _ _ _ hP (lv_sub hl [1, 2, 4, 0] rfl)
set_option maxRecDepth 100000 in
set_option maxHeartbeats 4000000 in
theorem c_X1_isMet (l : Launch) (P : Pl) (hA : Adr P) (hn : 26 ≤ P.2.2.2.1) (w : Wo) (x1 : Int64) (x3 : Int32) (x4 : Int32) {r : Int32} (h : F_X1_isMet w x1 x3 x4 = some r) : CtI l P yX1_isMet cX1_isMet 6 (some .boolean) 0 [.ref (P.2.1 14), .long x1, .int x3, .int x4] w r w := by
  have hlt : ∀ h, h < 26 → h < P.2.2.2.1 := fun h q => Nat.lt_of_lt_of_le q hn
  refine vs_met hA (by decide +kernel) (Nat.le_of_ble_eq_true rfl) (fun p e s m args below meth c ls S hF hP hl hr hk => ?_)
  have hx := S.1
  have hb := S.2.1
  replace hl : lv_has ls 6 [(0, .ref (P.2.1 14)), (1, .long x1), (3, .int x3), (4, .int x4)] := hl
  have hL3 : ∀ (x1 : Int64) (x4 : Int32) (n : Nat) (x5 : Int32), jl1 (B_X1_isMet_3 w x1 x4) n x5 = some r → ∀ (H : Heap) (locs : List Loc) (ls : Array Slot), St P s w H locs → lv_has ls 6 [(0, .ref (P.2.1 14)), (1, .long x1), (4, .int x4), (5, .int x5)] → W p l e (rmU 0 0 0) s m args below meth c H locs 0 0 (QI P (some .boolean) r w below args s) (F0 m 3 ls []) := by
    intro x1 x4
    intro n
    induction n with
    | zero =>
      intro x5 h
      cases h
    | succ n ih3 =>
      intro x5 h H locs ls hP hl
      replace h : B_X1_isMet_3 w x1 x4 (jl1 (B_X1_isMet_3 w x1 x4) n) x5 = some r := h
      revert h ih3
      generalize jl1 (B_X1_isMet_3 w x1 x4) n = k3
      intro ih3 h
      unfold B_X1_isMet_3 at h
      refine lv_iload hx hb dX1_isMet_3 (lv_at hl 3 rfl) ?_
      refine lv_iload hx hb dX1_isMet_5 (lv_at hl 2 rfl) ?_
      refine lv_icmp_ge (tgt := 65) hx hb dX1_isMet_7 (by decide) (fun c1 => ?_) (fun c1 => ?_)
      · rw [if_pos c1] at h
        refine lv_iconst (v := 0) hx hb dX1_isMet_65 (by decide) ?_
        obtain rfl := Option.some.inj h
        exact ve_i (v := 0) S hF hP hr hk rfl dX1_isMet_66
      · rw [if_neg c1] at h
        refine lv_iload hx hb dX1_isMet_10 (lv_at hl 3 rfl) ?_
        refine lv_if_lt (tgt := 65) hx hb dX1_isMet_12 (by decide) (fun c2 => ?_) (fun c2 => ?_)
        · rw [if_pos c2] at h
          refine lv_iconst (v := 0) hx hb dX1_isMet_65 (by decide) ?_
          obtain rfl := Option.some.inj h
          exact ve_i (v := 0) S hF hP hr hk rfl dX1_isMet_66
        · rw [if_neg c2] at h
          refine lv_iload hx hb dX1_isMet_15 (lv_at hl 3 rfl) ?_
          refine lv_aload_n hx hb dX1_isMet_17 rfl (lv_at hl 0 rfl) ?_
          refine vt_getR (r := 17) S hF hP (k := 2) (ci := 1) 14 (hlt _ (by decide)) rfl (by decide) rfl (by decide) rfl rfl (inC_X1 _) (List.mem_cons_of_mem _ fl_X1_19) dX1_isMet_18 ?_
          refine vt_alen (v := 13) S hF hP (hlt _ (by decide)) rfl (by decide) rfl dX1_isMet_21 ?_
          refine lv_icmp_ge (tgt := 65) hx hb dX1_isMet_22 (by decide) (fun c3 => ?_) (fun c3 => ?_)
          · rw [if_pos c3] at h
            refine lv_iconst (v := 0) hx hb dX1_isMet_65 (by decide) ?_
            obtain rfl := Option.some.inj h
            exact ve_i (v := 0) S hF hP hr hk rfl dX1_isMet_66
          · rw [if_neg c3] at h
            refine lv_iload hx hb dX1_isMet_25 (lv_at hl 3 rfl) ?_
            refine lv_aload_n hx hb dX1_isMet_27 rfl (lv_at hl 0 rfl) ?_
            refine vt_getR (r := 18) S hF hP (k := 3) (ci := 1) 14 (hlt _ (by decide)) rfl (by decide) rfl (by decide) rfl rfl (inC_X1 _) (List.mem_cons_of_mem _ fl_X1_22) dX1_isMet_28 ?_
            refine vt_alen (v := 13) S hF hP (hlt _ (by decide)) rfl (by decide) rfl dX1_isMet_31 ?_
            refine lv_icmp_ge (tgt := 65) hx hb dX1_isMet_32 (by decide) (fun c4 => ?_) (fun c4 => ?_)
            · rw [if_pos c4] at h
              refine lv_iconst (v := 0) hx hb dX1_isMet_65 (by decide) ?_
              obtain rfl := Option.some.inj h
              exact ve_i (v := 0) S hF hP hr hk rfl dX1_isMet_66
            · rw [if_neg c4] at h
              refine lv_lload_n hx hb dX1_isMet_35 rfl (lv_at hl 1 rfl) ?_
              refine lv_aload_n hx hb dX1_isMet_36 rfl (lv_at hl 0 rfl) ?_
              refine vt_getR (r := 17) S hF hP (k := 2) (ci := 1) 14 (hlt _ (by decide)) rfl (by decide) rfl (by decide) rfl rfl (inC_X1 _) (List.mem_cons_of_mem _ fl_X1_19) dX1_isMet_37 ?_
              refine lv_iload hx hb dX1_isMet_40 (lv_at hl 3 rfl) ?_
              obtain ⟨c5, h⟩ := chk h
              refine vt_lald S hF hP (hlt _ (by decide)) rfl c5 dX1_isMet_42 ?_
              refine lv_lxor hx hb dX1_isMet_43 ?_
              refine lv_aload_n hx hb dX1_isMet_44 rfl (lv_at hl 0 rfl) ?_
              refine vt_getR (r := 18) S hF hP (k := 3) (ci := 1) 14 (hlt _ (by decide)) rfl (by decide) rfl (by decide) rfl rfl (inC_X1 _) (List.mem_cons_of_mem _ fl_X1_22) dX1_isMet_45 ?_
              refine lv_iload hx hb dX1_isMet_48 (lv_at hl 3 rfl) ?_
              obtain ⟨c6, h⟩ := chk h
              refine vt_lald S hF hP (hlt _ (by decide)) rfl c6 dX1_isMet_50 ?_
              refine lv_land hx hb dX1_isMet_51 ?_
              refine lv_lconst (v := 0) hx hb dX1_isMet_52 (by decide) ?_
              refine W.lcmp hx hb dX1_isMet_53 ?_
              refine lv_if_ne (tgt := 59) hx hb dX1_isMet_54 (by decide) (fun c7 => ?_) (fun c7 => ?_)
              · rw [if_neg c7] at h
                refine lv_iinc (v := (x5 + 1)) (lv' := [(5, .int (x5 + 1)), (0, .ref (P.2.1 14)), (1, .long x1), (4, .int x4)]) hx hb dX1_isMet_59 hl (k := 3) rfl rfl (by decide) rfl (fun ls hl => ?_)
                refine lv_goto (tgt := 3) hx hb dX1_isMet_62 (by decide) ?_
                exact ih3 _ h _ _ _ hP (lv_sub hl [1, 2, 3, 0] rfl)
              · rw [if_pos c7] at h
                refine lv_iconst (v := 1) hx hb dX1_isMet_57 (by decide) ?_
                obtain rfl := Option.some.inj h
                exact ve_i (v := 1) S hF hP hr hk rfl dX1_isMet_58
  unfold F_X1_isMet at h
  refine lv_iload_n hx hb dX1_isMet_0 rfl (lv_at hl 2 rfl) ?_
  refine lv_istore (lv' := [(5, .int x3), (0, .ref (P.2.1 14)), (1, .long x1), (3, .int x3), (4, .int x4)]) hx hb dX1_isMet_1 hl (by decide) rfl (fun ls hl => ?_)
  exact hL3 _ _ fu _ h _ _ _ hP (lv_sub hl [1, 2, 4, 0] rfl)
set_option maxRecDepth 100000 in
set_option maxHeartbeats 4000000 in
theorem c_X1_meet (l : Launch) (P : Pl) (hA : Adr P) (hn : 26 ≤ P.2.2.2.1) (w : Wo) (x1 : Int32) (x2 : Int32) (x3 : Int32) (x4 : Int32) (x5 : Int32) {r : Int32 × Wo} (h : F_X1_meet w x1 x2 x3 x4 x5 = some r) : CtI l P yX1_meet cX1_meet 7 (some .boolean) 1 [.ref (P.2.1 14), .int x1, .int x2, .int x3, .int x4, .int x5] w r.1 r.2 := by
  have hlt : ∀ h, h < 26 → h < P.2.2.2.1 := fun h q => Nat.lt_of_lt_of_le q hn
  refine vs_met hA (by decide +kernel) (Nat.le_of_ble_eq_true rfl) (fun p e s m args below meth c ls S hF hP hl hr hk => ?_)
  have hx := S.1
  have hb := S.2.1
  replace hl : lv_has ls 7 [(0, .ref (P.2.1 14)), (1, .int x1), (2, .int x2), (3, .int x3), (4, .int x4), (5, .int x5)] := hl
  have hB68 : ∀ (w : Wo), B_X1_meet_68 w = some r → ∀ (H : Heap) (locs : List Loc) (ls : Array Slot), St P s w H locs → lv_has ls 7 [] → W p l e (rmU 1 0 0) s m args below meth c H locs 0 0 (QI P (some .boolean) r.1 r.2 below args s) (F0 m 68 ls []) := by
    intro w h H locs ls hP hl
    unfold B_X1_meet_68 at h
    refine lv_iconst (v := 1) hx hb dX1_meet_68 (by decide) ?_
    obtain rfl := Option.some.inj h
    exact ve_i (v := 1) S hF hP hr hk rfl dX1_meet_69
  have hB57 : ∀ (w : Wo) (x6 : Int32), B_X1_meet_57 w x6 = some r → ∀ (H : Heap) (locs : List Loc) (ls : Array Slot), St P s w H locs → lv_has ls 7 [(0, .ref (P.2.1 14)), (6, .int x6)] → W p l e (rmU 1 0 0) s m args below meth c H locs 0 0 (QI P (some .boolean) r.1 r.2 below args s) (F0 m 57 ls []) := by
    intro w x6 h H locs ls hP hl
    unfold B_X1_meet_57 at h
    refine lv_aload_n hx hb dX1_meet_57 rfl (lv_at hl 0 rfl) ?_
    refine lv_aload_n hx hb dX1_meet_58 rfl (lv_at hl 0 rfl) ?_
    refine vt_getR (r := 16) S hF hP (k := 1) (ci := 1) 14 (hlt _ (by decide)) rfl (by decide) rfl (by decide) rfl rfl (inC_X1 _) (List.mem_cons_of_mem _ fl_X1_15) dX1_meet_59 ?_
    refine lv_iload hx hb dX1_meet_62 (lv_at hl 1 rfl) ?_
    obtain ⟨c3, h⟩ := chk h
    refine vt_iald S hF hP (hlt _ (by decide)) rfl c3 dX1_meet_64 ?_
    refine vt_putI S hF hP (k := 7) (ci := 1) 14 (hlt _ (by decide)) rfl (by decide) rfl (by decide) rfl tyX1 tyX1_ok nmX1 rfl rfl rfl rfl (by decide) (inC_X1 _) (List.mem_cons_of_mem _ fl_X1_35) dX1_meet_65 (fun H locs hP => ?_)
    exact hB68 _ h _ _ _ hP (lv_sub hl [] rfl)
  have hB52 : ∀ (w : Wo) (x1 : Int32) (x6 : Int32), B_X1_meet_52 w x1 x6 = some r → ∀ (H : Heap) (locs : List Loc) (ls : Array Slot), St P s w H locs → lv_has ls 7 [(0, .ref (P.2.1 14)), (1, .int x1), (6, .int x6)] → W p l e (rmU 1 0 0) s m args below meth c H locs 0 0 (QI P (some .boolean) r.1 r.2 below args s) (F0 m 52 ls []) := by
    intro w x1 x6 h H locs ls hP hl
    unfold B_X1_meet_52 at h
    refine lv_aload_n hx hb dX1_meet_52 rfl (lv_at hl 0 rfl) ?_
    refine lv_iload_n hx hb dX1_meet_53 rfl (lv_at hl 1 rfl) ?_
    refine vt_putI S hF hP (k := 6) (ci := 1) 14 (hlt _ (by decide)) rfl (by decide) rfl (by decide) rfl tyX1 tyX1_ok nmX1 rfl rfl rfl rfl (by decide) (inC_X1 _) (List.mem_cons_of_mem _ fl_X1_32) dX1_meet_54 (fun H locs hP => ?_)
    exact hB57 _ _ h _ _ _ hP (lv_sub hl [0, 2] rfl)
  have hL3 : ∀ (w : Wo) (x1 : Int32) (x3 : Int32) (x4 : Int32) (x5 : Int32) (n : Nat) (x6 : Int32), jl1 (B_X1_meet_3 w x1 x3 x4 x5) n x6 = some r → ∀ (H : Heap) (locs : List Loc) (ls : Array Slot), St P s w H locs → lv_has ls 7 [(0, .ref (P.2.1 14)), (1, .int x1), (3, .int x3), (4, .int x4), (5, .int x5), (6, .int x6)] → W p l e (rmU 1 0 0) s m args below meth c H locs 0 0 (QI P (some .boolean) r.1 r.2 below args s) (F0 m 3 ls []) := by
    intro w x1 x3 x4 x5
    intro n
    induction n with
    | zero =>
      intro x6 h
      cases h
    | succ n ih3 =>
      intro x6 h H locs ls hP hl
      replace h : B_X1_meet_3 w x1 x3 x4 x5 (jl1 (B_X1_meet_3 w x1 x3 x4 x5) n) x6 = some r := h
      revert h ih3
      generalize jl1 (B_X1_meet_3 w x1 x3 x4 x5) n = k3
      intro ih3 h
      unfold B_X1_meet_3 at h
      refine lv_iload hx hb dX1_meet_3 (lv_at hl 5 rfl) ?_
      refine lv_iload_n hx hb dX1_meet_5 rfl (lv_at hl 2 rfl) ?_
      refine lv_icmp_ge (tgt := 76) hx hb dX1_meet_6 (by decide) (fun c4 => ?_) (fun c4 => ?_)
      · rw [if_pos c4] at h
        refine lv_iconst (v := 0) hx hb dX1_meet_76 (by decide) ?_
        obtain rfl := Option.some.inj h
        exact ve_i (v := 0) S hF hP hr hk rfl dX1_meet_77
      · rw [if_neg c4] at h
        refine lv_iload hx hb dX1_meet_9 (lv_at hl 5 rfl) ?_
        refine lv_if_lt (tgt := 76) hx hb dX1_meet_11 (by decide) (fun c5 => ?_) (fun c5 => ?_)
        · rw [if_pos c5] at h
          refine lv_iconst (v := 0) hx hb dX1_meet_76 (by decide) ?_
          obtain rfl := Option.some.inj h
          exact ve_i (v := 0) S hF hP hr hk rfl dX1_meet_77
        · rw [if_neg c5] at h
          refine lv_iload hx hb dX1_meet_14 (lv_at hl 5 rfl) ?_
          refine lv_aload_n hx hb dX1_meet_16 rfl (lv_at hl 0 rfl) ?_
          refine vt_getR (r := 15) S hF hP (k := 0) (ci := 1) 14 (hlt _ (by decide)) rfl (by decide) rfl (by decide) rfl rfl (inC_X1 _) (List.mem_cons_of_mem _ fl_X1_9) dX1_meet_17 ?_
          refine vt_alen (v := 157) S hF hP (hlt _ (by decide)) rfl (by decide) rfl dX1_meet_20 ?_
          refine lv_icmp_ge (tgt := 76) hx hb dX1_meet_21 (by decide) (fun c6 => ?_) (fun c6 => ?_)
          · rw [if_pos c6] at h
            refine lv_iconst (v := 0) hx hb dX1_meet_76 (by decide) ?_
            obtain rfl := Option.some.inj h
            exact ve_i (v := 0) S hF hP hr hk rfl dX1_meet_77
          · rw [if_neg c6] at h
            refine lv_iload hx hb dX1_meet_24 (lv_at hl 5 rfl) ?_
            refine lv_aload_n hx hb dX1_meet_26 rfl (lv_at hl 0 rfl) ?_
            refine vt_getR (r := 16) S hF hP (k := 1) (ci := 1) 14 (hlt _ (by decide)) rfl (by decide) rfl (by decide) rfl rfl (inC_X1 _) (List.mem_cons_of_mem _ fl_X1_15) dX1_meet_27 ?_
            refine vt_alen (v := 157) S hF hP (hlt _ (by decide)) rfl (by decide) rfl dX1_meet_30 ?_
            refine lv_icmp_ge (tgt := 76) hx hb dX1_meet_31 (by decide) (fun c7 => ?_) (fun c7 => ?_)
            · rw [if_pos c7] at h
              refine lv_iconst (v := 0) hx hb dX1_meet_76 (by decide) ?_
              obtain rfl := Option.some.inj h
              exact ve_i (v := 0) S hF hP hr hk rfl dX1_meet_77
            · rw [if_neg c7] at h
              refine lv_aload_n hx hb dX1_meet_34 rfl (lv_at hl 0 rfl) ?_
              refine lv_aload_n hx hb dX1_meet_35 rfl (lv_at hl 0 rfl) ?_
              refine vt_getR (r := 15) S hF hP (k := 0) (ci := 1) 14 (hlt _ (by decide)) rfl (by decide) rfl (by decide) rfl rfl (inC_X1 _) (List.mem_cons_of_mem _ fl_X1_9) dX1_meet_36 ?_
              refine lv_iload hx hb dX1_meet_39 (lv_at hl 5 rfl) ?_
              obtain ⟨c8, h⟩ := chk h
              refine vt_lald S hF hP (hlt _ (by decide)) rfl c8 dX1_meet_41 ?_
              refine lv_iload hx hb dX1_meet_42 (lv_at hl 3 rfl) ?_
              refine lv_iload hx hb dX1_meet_44 (lv_at hl 4 rfl) ?_
              obtain ⟨q1, hq1, h⟩ := ob h
              refine vu_i hP (vu_V S hF hP (h := 14) (hlt _ (by decide)) rfl (by decide) rfl (c_X1_isMet l P hA hn w (gL w 15 (Int32.toNatClampNeg x6)) x4 x5 hq1) ok_X1_isMet ml_X1_82 ⟨Nat.le_of_ble_eq_true rfl, Nat.le_of_ble_eq_true rfl⟩ rfl hl.1 rfl (Nat.le_of_ble_eq_true rfl) dX1_meet_46 ⟨Nat.le_of_ble_eq_true rfl, Nat.le_of_ble_eq_true rfl⟩) (fun H locs ho2 hP => ?_)
              refine lv_if_eq (tgt := 70) hx hb dX1_meet_49 (by decide) (fun c9 => ?_) (fun c9 => ?_)
              · rw [if_pos c9] at h
                refine lv_iinc (v := (x6 + 1)) (lv' := [(6, .int (x6 + 1)), (0, .ref (P.2.1 14)), (1, .int x1), (3, .int x3), (4, .int x4), (5, .int x5)]) hx hb dX1_meet_70 hl (k := 5) rfl rfl (by decide) rfl (fun ls hl => ?_)
                refine lv_goto (tgt := 3) hx hb dX1_meet_73 (by decide) ?_
                exact ih3 _ h _ _ _ hP (lv_sub hl [1, 2, 3, 4, 5, 0] rfl)
              · rw [if_neg c9] at h
                exact hB52 _ _ _ h _ _ _ hP (lv_sub hl [0, 1, 5] rfl)
  unfold F_X1_meet at h
  refine lv_iload_n hx hb dX1_meet_0 rfl (lv_at hl 2 rfl) ?_
  refine lv_istore (lv' := [(6, .int x2), (0, .ref (P.2.1 14)), (1, .int x1), (2, .int x2), (3, .int x3), (4, .int x4), (5, .int x5)]) hx hb dX1_meet_1 hl (by decide) rfl (fun ls hl => ?_)
  exact hL3 _ _ _ _ _ fu _ h _ _ _ hP (lv_sub hl [1, 2, 4, 5, 6, 0] rfl)
set_option maxRecDepth 100000 in
set_option maxHeartbeats 4000000 in
theorem c_X1_search (l : Launch) (P : Pl) (hA : Adr P) (hn : 26 ≤ P.2.2.2.1) (w : Wo) {r : Wo} (h : F_X1_search w = some r) : CtV l P yX1_search cX1_search 3 none 3 [.ref (P.2.1 14), .ref (P.2.1 1)] w r := by
  have hlt : ∀ h, h < 26 → h < P.2.2.2.1 := fun h q => Nat.lt_of_lt_of_le q hn
  refine vs_met hA (by decide +kernel) (Nat.le_of_ble_eq_true rfl) (fun p e s m args below meth c ls S hF hP hl hr hk => ?_)
  have hx := S.1
  have hb := S.2.1
  replace hl : lv_has ls 3 [(0, .ref (P.2.1 14)), (1, .ref (P.2.1 1))] := hl
  have hB20 : ∀ (w : Wo), B_X1_search_20 w = some r → ∀ (H : Heap) (locs : List Loc) (ls : Array Slot), St P s w H locs → lv_has ls 3 [(0, .ref (P.2.1 14)), (1, .ref (P.2.1 1))] → W p l e (rmU 3 0 0) s m args below meth c H locs 0 0 (QV P r below args s) (F0 m 20 ls []) := by
    intro w h H locs ls hP hl
    unfold B_X1_search_20 at h
    refine lv_aload_n hx hb dX1_search_20 rfl (lv_at hl 0 rfl) ?_
    refine lv_aload_n hx hb dX1_search_21 rfl (lv_at hl 1 rfl) ?_
    refine vt_getL S hF hP (k := 2) (ci := 0) 1 (hlt _ (by decide)) rfl (by decide) rfl (by decide) rfl (inC_X0 _) (List.mem_cons_of_mem _ fl_X1_42) dX1_search_22 ?_
    refine lv_iconst (v := (-1)) hx hb dX1_search_25 (by decide) ?_
    obtain ⟨q2, hq2, h⟩ := ob h
    refine vu_v hP (vu_V S hF hP (h := 14) (hlt _ (by decide)) rfl (by decide) rfl (c_X1_addBoard l P hA hn w (gL w 1 2) (-1) hq2) ok_X1_addBoard ml_X1_48 ⟨Nat.le_of_ble_eq_true rfl, Nat.le_of_ble_eq_true rfl⟩ rfl hl.1 rfl (Nat.le_of_ble_eq_true rfl) dX1_search_26 ⟨Nat.le_of_ble_eq_true rfl, Nat.le_of_ble_eq_true rfl⟩) (fun H locs hP => ?_)
    refine lv_aload_n hx hb dX1_search_29 rfl (lv_at hl 0 rfl) ?_
    refine lv_aload_n hx hb dX1_search_30 rfl (lv_at hl 1 rfl) ?_
    refine lv_iconst (v := 0) hx hb dX1_search_31 (by decide) ?_
    refine lv_iconst (v := 1) hx hb dX1_search_32 (by decide) ?_
    obtain ⟨q3, hq3, h⟩ := ob h
    refine vu_v hP (vu_V S hF hP (h := 14) (hlt _ (by decide)) rfl (by decide) rfl (c_X1_spread l P hA hn q2 0 1 hq3) ok_X1_spread ml_X1_52 ⟨Nat.le_of_ble_eq_true rfl, Nat.le_of_ble_eq_true rfl⟩ rfl hl.1 rfl (Nat.le_of_ble_eq_true rfl) dX1_search_33 ⟨Nat.le_of_ble_eq_true rfl, Nat.le_of_ble_eq_true rfl⟩) (fun H locs hP => ?_)
    refine lv_aload_n hx hb dX1_search_36 rfl (lv_at hl 0 rfl) ?_
    refine vt_getI S hF hP (k := 4) (ci := 1) 14 (hlt _ (by decide)) rfl (by decide) rfl (by decide) rfl (inC_X1 _) (List.mem_cons_of_mem _ fl_X1_25) dX1_search_37 ?_
    refine lv_istore_n (lv' := [(2, .int (gI q3 14 4)), (0, .ref (P.2.1 14)), (1, .ref (P.2.1 1))]) hx hb dX1_search_40 rfl hl (by decide) rfl (fun ls hl => ?_)
    refine lv_aload_n hx hb dX1_search_41 rfl (lv_at hl 1 rfl) ?_
    refine lv_aload_n hx hb dX1_search_42 rfl (lv_at hl 2 rfl) ?_
    refine lv_iconst (v := 1) hx hb dX1_search_43 (by decide) ?_
    refine lv_iload_n hx hb dX1_search_44 rfl (lv_at hl 0 rfl) ?_
    obtain ⟨q4, hq4, h⟩ := ob h
    refine vu_v hP (vu_V S hF hP (h := 14) (hlt _ (by decide)) rfl (by decide) rfl (c_X1_spread l P hA hn q3 1 (gI q3 14 4) hq4) ok_X1_spread ml_X1_52 ⟨Nat.le_of_ble_eq_true rfl, Nat.le_of_ble_eq_true rfl⟩ rfl hl.1 rfl (Nat.le_of_ble_eq_true rfl) dX1_search_45 ⟨Nat.le_of_ble_eq_true rfl, Nat.le_of_ble_eq_true rfl⟩) (fun H locs hP => ?_)
    refine lv_aload_n hx hb dX1_search_48 rfl (lv_at hl 1 rfl) ?_
    refine lv_iconst (v := 0) hx hb dX1_search_49 (by decide) ?_
    refine lv_iconst (v := 0) hx hb dX1_search_50 (by decide) ?_
    refine lv_iconst (v := 1) hx hb dX1_search_51 (by decide) ?_
    refine lv_iconst (v := 0) hx hb dX1_search_52 (by decide) ?_
    refine lv_iconst (v := 1) hx hb dX1_search_53 (by decide) ?_
    obtain ⟨q5, hq5, h⟩ := ob h
    refine vu_i hP (vu_V S hF hP (h := 14) (hlt _ (by decide)) rfl (by decide) rfl (c_X1_meet l P hA hn q4 0 0 1 0 1 hq5) ok_X1_meet ml_X1_56 ⟨Nat.le_of_ble_eq_true rfl, Nat.le_of_ble_eq_true rfl⟩ rfl hl.1 rfl (Nat.le_of_ble_eq_true rfl) dX1_search_54 ⟨Nat.le_of_ble_eq_true rfl, Nat.le_of_ble_eq_true rfl⟩) (fun H locs ho6 hP => ?_)
    refine lv_if_ne (tgt := 103) hx hb dX1_search_57 (by decide) (fun c13 => ?_) (fun c13 => ?_)
    · rw [if_neg c13] at h
      obtain rfl := Option.some.inj h
      exact ve_v S hF hP hr hk dX1_search_103
    · rw [if_pos c13] at h
      refine lv_aload_n hx hb dX1_search_60 rfl (lv_at hl 1 rfl) ?_
      refine lv_iconst (v := 1) hx hb dX1_search_61 (by decide) ?_
      refine lv_iconst (v := 1) hx hb dX1_search_62 (by decide) ?_
      refine lv_iload_n hx hb dX1_search_63 rfl (lv_at hl 0 rfl) ?_
      refine lv_iconst (v := 0) hx hb dX1_search_64 (by decide) ?_
      refine lv_iconst (v := 1) hx hb dX1_search_65 (by decide) ?_
      obtain ⟨q7, hq7, h⟩ := ob h
      refine vu_i hP (vu_V S hF hP (h := 14) (hlt _ (by decide)) rfl (by decide) rfl (c_X1_meet l P hA hn q5.2 1 1 (gI q3 14 4) 0 1 hq7) ok_X1_meet ml_X1_56 ⟨Nat.le_of_ble_eq_true rfl, Nat.le_of_ble_eq_true rfl⟩ rfl hl.1 rfl (Nat.le_of_ble_eq_true rfl) dX1_search_66 ⟨Nat.le_of_ble_eq_true rfl, Nat.le_of_ble_eq_true rfl⟩) (fun H locs ho8 hP => ?_)
      refine lv_if_ne (tgt := 103) hx hb dX1_search_69 (by decide) (fun c14 => ?_) (fun c14 => ?_)
      · rw [if_neg c14] at h
        obtain rfl := Option.some.inj h
        exact ve_v S hF hP hr hk dX1_search_103
      · rw [if_pos c14] at h
        refine lv_aload_n hx hb dX1_search_72 rfl (lv_at hl 1 rfl) ?_
        refine lv_iconst (v := 2) hx hb dX1_search_73 (by decide) ?_
        refine lv_iload_n hx hb dX1_search_74 rfl (lv_at hl 0 rfl) ?_
        refine lv_aload_n hx hb dX1_search_75 rfl (lv_at hl 1 rfl) ?_
        refine vt_getI S hF hP (k := 4) (ci := 1) 14 (hlt _ (by decide)) rfl (by decide) rfl (by decide) rfl (inC_X1 _) (List.mem_cons_of_mem _ fl_X1_25) dX1_search_76 ?_
        refine lv_iconst (v := 0) hx hb dX1_search_79 (by decide) ?_
        refine lv_iconst (v := 1) hx hb dX1_search_80 (by decide) ?_
        obtain ⟨q9, hq9, h⟩ := ob h
        refine vu_i hP (vu_V S hF hP (h := 14) (hlt _ (by decide)) rfl (by decide) rfl (c_X1_meet l P hA hn q7.2 2 (gI q3 14 4) (gI q7.2 14 4) 0 1 hq9) ok_X1_meet ml_X1_56 ⟨Nat.le_of_ble_eq_true rfl, Nat.le_of_ble_eq_true rfl⟩ rfl hl.1 rfl (Nat.le_of_ble_eq_true rfl) dX1_search_81 ⟨Nat.le_of_ble_eq_true rfl, Nat.le_of_ble_eq_true rfl⟩) (fun H locs ho10 hP => ?_)
        refine lv_if_ne (tgt := 103) hx hb dX1_search_84 (by decide) (fun c15 => ?_) (fun c15 => ?_)
        · rw [if_neg c15] at h
          obtain rfl := Option.some.inj h
          exact ve_v S hF hP hr hk dX1_search_103
        · rw [if_pos c15] at h
          refine lv_aload_n hx hb dX1_search_87 rfl (lv_at hl 1 rfl) ?_
          refine lv_iconst (v := 3) hx hb dX1_search_88 (by decide) ?_
          refine lv_iload_n hx hb dX1_search_89 rfl (lv_at hl 0 rfl) ?_
          refine lv_aload_n hx hb dX1_search_90 rfl (lv_at hl 1 rfl) ?_
          refine vt_getI S hF hP (k := 4) (ci := 1) 14 (hlt _ (by decide)) rfl (by decide) rfl (by decide) rfl (inC_X1 _) (List.mem_cons_of_mem _ fl_X1_25) dX1_search_91 ?_
          refine lv_iconst (v := 1) hx hb dX1_search_94 (by decide) ?_
          refine lv_aload_n hx hb dX1_search_95 rfl (lv_at hl 1 rfl) ?_
          refine vt_getI S hF hP (k := 5) (ci := 1) 14 (hlt _ (by decide)) rfl (by decide) rfl (by decide) rfl (inC_X1 _) (List.mem_cons_of_mem _ fl_X1_29) dX1_search_96 ?_
          obtain ⟨q11, hq11, h⟩ := ob h
          refine vu_i hP (vu_V S hF hP (h := 14) (hlt _ (by decide)) rfl (by decide) rfl (c_X1_meet l P hA hn q9.2 3 (gI q3 14 4) (gI q9.2 14 4) 1 (gI q9.2 14 5) hq11) ok_X1_meet ml_X1_56 ⟨Nat.le_of_ble_eq_true rfl, Nat.le_of_ble_eq_true rfl⟩ rfl hl.1 rfl (Nat.le_of_ble_eq_true rfl) dX1_search_99 ⟨Nat.le_of_ble_eq_true rfl, Nat.le_of_ble_eq_true rfl⟩) (fun H locs ho12 hP => ?_)
          refine lv_pop hx hb dX1_search_102 rfl ?_
          obtain rfl := Option.some.inj h
          exact ve_v S hF hP hr hk dX1_search_103
  have hB10 : ∀ (w : Wo), B_X1_search_10 w = some r → ∀ (H : Heap) (locs : List Loc) (ls : Array Slot), St P s w H locs → lv_has ls 3 [(0, .ref (P.2.1 14)), (1, .ref (P.2.1 1))] → W p l e (rmU 3 0 0) s m args below meth c H locs 0 0 (QV P r below args s) (F0 m 10 ls []) := by
    intro w h H locs ls hP hl
    unfold B_X1_search_10 at h
    refine lv_aload_n hx hb dX1_search_10 rfl (lv_at hl 0 rfl) ?_
    refine lv_aload_n hx hb dX1_search_11 rfl (lv_at hl 1 rfl) ?_
    obtain ⟨q1, hq1, h⟩ := ob h
    refine vu_v hP (vu_V S hF hP (h := 14) (hlt _ (by decide)) rfl (by decide) rfl (c_X1_takeGoalsBack l P hA hn w hq1) ok_X1_takeGoalsBack ml_X1_38 ⟨Nat.le_of_ble_eq_true rfl, Nat.le_of_ble_eq_true rfl⟩ rfl hl.1 rfl (Nat.le_of_ble_eq_true rfl) dX1_search_12 ⟨Nat.le_of_ble_eq_true rfl, Nat.le_of_ble_eq_true rfl⟩) (fun H locs hP => ?_)
    refine lv_aload_n hx hb dX1_search_15 rfl (lv_at hl 0 rfl) ?_
    refine lv_iconst (v := 0) hx hb dX1_search_16 (by decide) ?_
    refine vt_putI S hF hP (k := 4) (ci := 1) 14 (hlt _ (by decide)) rfl (by decide) rfl (by decide) rfl tyX1 tyX1_ok nmX1 rfl rfl rfl rfl (by decide) (inC_X1 _) (List.mem_cons_of_mem _ fl_X1_25) dX1_search_17 (fun H locs hP => ?_)
    exact hB20 _ h _ _ _ hP (lv_sub hl [0, 1] rfl)
  have hB5 : ∀ (w : Wo), B_X1_search_5 w = some r → ∀ (H : Heap) (locs : List Loc) (ls : Array Slot), St P s w H locs → lv_has ls 3 [(0, .ref (P.2.1 14)), (1, .ref (P.2.1 1))] → W p l e (rmU 3 0 0) s m args below meth c H locs 0 0 (QV P r below args s) (F0 m 5 ls []) := by
    intro w h H locs ls hP hl
    unfold B_X1_search_5 at h
    refine lv_aload_n hx hb dX1_search_5 rfl (lv_at hl 0 rfl) ?_
    refine lv_iconst (v := (-1)) hx hb dX1_search_6 (by decide) ?_
    refine vt_putI S hF hP (k := 7) (ci := 1) 14 (hlt _ (by decide)) rfl (by decide) rfl (by decide) rfl tyX1 tyX1_ok nmX1 rfl rfl rfl rfl (by decide) (inC_X1 _) (List.mem_cons_of_mem _ fl_X1_35) dX1_search_7 (fun H locs hP => ?_)
    exact hB10 _ h _ _ _ hP (lv_sub hl [0, 1] rfl)
  unfold F_X1_search at h
  refine lv_aload_n hx hb dX1_search_0 rfl (lv_at hl 0 rfl) ?_
  refine lv_iconst (v := 4) hx hb dX1_search_1 (by decide) ?_
  refine vt_putI S hF hP (k := 6) (ci := 1) 14 (hlt _ (by decide)) rfl (by decide) rfl (by decide) rfl tyX1 tyX1_ok nmX1 rfl rfl rfl rfl (by decide) (inC_X1 _) (List.mem_cons_of_mem _ fl_X1_32) dX1_search_2 (fun H locs hP => ?_)
  exact hB5 _ h _ _ _ hP (lv_sub hl [0, 1] rfl)
set_option maxRecDepth 100000 in
set_option maxHeartbeats 4000000 in
theorem c_X5_step (l : Launch) (P : Pl) (hA : Adr P) (hn : 26 ≤ P.2.2.2.1) (hst : l.stackTraces = false) (w : Wo) {r : (Nat × Wo) ⊕ (Int32 × Wo)} (h : F_X5_step w = some r) : CxI l P yX5_step cX5_step 2 (some .int) 7 2 [.ref (P.2.1 0)] w r := by
  have hlt : ∀ h, h < 26 → h < P.2.2.2.1 := fun h q => Nat.lt_of_lt_of_le q hn
  refine vs_vx hA (by decide +kernel) (Nat.le_of_ble_eq_true rfl) (fun p e s m args below meth c ls S hF hP hl hr hk hxt => ?_)
  have hx := S.1
  have hb := S.2.1
  replace hl : lv_has ls 2 [(0, .ref (P.2.1 0))] := hl
  have hB64 : ∀ (w : Wo) (x1 : Int32), B_X5_step_64 w x1 = some r → ∀ (H : Heap) (locs : List Loc) (ls : Array Slot), St P s w H locs → lv_has ls 2 [(0, .ref (P.2.1 0)), (1, .int x1)] → W p l e (rmU 7 2 (6 * 2)) s m args below meth c H locs 1 6 (XI P 2 r below args s) (F0 m 64 ls []) := by
    intro w x1 h H locs ls hP hl
    unfold B_X5_step_64 at h
    refine lv_aload_n hx hb dX5_step_64 rfl (lv_at hl 0 rfl) ?_
    refine vt_getR (r := 1) S hF hP (k := 0) (ci := 5) 0 (hlt _ (by decide)) rfl (by decide) rfl (by decide) rfl rfl (inC_X5 _) (List.mem_cons_of_mem _ fl_X5_12) dX5_step_65 ?_
    refine lv_iload_n hx hb dX5_step_68 rfl (lv_at hl 1 rfl) ?_
    obtain ⟨q7, hq7, h⟩ := ob h
    refine vu_v hP (vu_V S hF hP (h := 1) (hlt _ (by decide)) rfl (by decide) rfl (c_X0_turnToGoal l P hA hn w x1 hq7) ok_X0_turnToGoal ml_X5_140 ⟨Nat.le_of_ble_eq_true rfl, Nat.le_of_ble_eq_true rfl⟩ rfl hl.1 rfl (Nat.le_of_ble_eq_true rfl) dX5_step_69 ⟨Nat.le_of_ble_eq_true rfl, Nat.le_of_ble_eq_true rfl⟩) (fun H locs hP => ?_)
    refine lv_iload_n hx hb dX5_step_72 rfl (lv_at hl 1 rfl) ?_
    obtain rfl := Option.some.inj h
    exact ve_xi (v := x1) S hF hP hr hk rfl (by decide) (by decide) dX5_step_73
  unfold F_X5_step at h
  refine lv_aload_n hx hb dX5_step_0 rfl (lv_at hl 0 rfl) ?_
  obtain ⟨q1, hq1, h⟩ := ob h
  refine vu_i hP (vu_V S hF hP (h := 0) (hlt _ (by decide)) rfl (by decide) rfl (c_X5_judgeStep l P hA hn w hq1) ok_X5_judgeStep ml_X5_113 ⟨Nat.le_of_ble_eq_true rfl, Nat.le_of_ble_eq_true rfl⟩ rfl hl.1 rfl (Nat.le_of_ble_eq_true rfl) dX5_step_1 ⟨Nat.le_of_ble_eq_true rfl, Nat.le_of_ble_eq_true rfl⟩) (fun H locs ho2 hP => ?_)
  obtain ⟨q3, hq3, h⟩ := ob h
  refine vu_xv hP (vu_SX S hF hP (c_X5_raise l P hA hn hst q1.2 q1.1 hq3) ok_X5_raise ml_X5_116 ⟨Nat.le_of_ble_eq_true rfl, Nat.le_of_ble_eq_true rfl⟩ rfl hl.1 rfl (Nat.le_of_ble_eq_true rfl) dX5_step_4 ⟨Nat.le_of_ble_eq_true rfl, Nat.le_of_ble_eq_true rfl⟩) (fun H locs u ce q9 ho hP e1 e2 e3 => ?_) (fun H locs uv4 ho hP => ?_)
  · subst ho
    obtain rfl := Option.some.inj h
    exact ve_out hF hP hk hxt e1 e2 e3 (by decide) (by decide)
  · subst ho
    rw [Sum.elim_inr] at h
    refine lv_aload_n hx hb dX5_step_7 rfl (lv_at hl 0 rfl) ?_
    refine vt_getR (r := 14) S hF hP (k := 4) (ci := 5) 0 (hlt _ (by decide)) rfl (by decide) rfl (by decide) rfl rfl (inC_X5 _) (List.mem_cons_of_mem _ fl_X5_32) dX5_step_8 ?_
    refine lv_aload_n hx hb dX5_step_11 rfl (lv_at hl 0 rfl) ?_
    refine vt_getR (r := 1) S hF hP (k := 0) (ci := 5) 0 (hlt _ (by decide)) rfl (by decide) rfl (by decide) rfl rfl (inC_X5 _) (List.mem_cons_of_mem _ fl_X5_12) dX5_step_12 ?_
    obtain ⟨q5, hq5, h⟩ := ob h
    refine vu_v hP (vu_V S hF hP (h := 14) (hlt _ (by decide)) rfl (by decide) rfl (c_X1_search l P hA hn uv4 hq5) ok_X1_search ml_X5_120 ⟨Nat.le_of_ble_eq_true rfl, Nat.le_of_ble_eq_true rfl⟩ rfl hl.1 rfl (Nat.le_of_ble_eq_true rfl) dX5_step_15 ⟨Nat.le_of_ble_eq_true rfl, Nat.le_of_ble_eq_true rfl⟩) (fun H locs hP => ?_)
    refine lv_aload_n hx hb dX5_step_18 rfl (lv_at hl 0 rfl) ?_
    refine vt_getR (r := 14) S hF hP (k := 4) (ci := 5) 0 (hlt _ (by decide)) rfl (by decide) rfl (by decide) rfl rfl (inC_X5 _) (List.mem_cons_of_mem _ fl_X5_32) dX5_step_19 ?_
    refine vt_getI S hF hP (k := 7) (ci := 1) 14 (hlt _ (by decide)) rfl (by decide) rfl (by decide) rfl (inC_X1 _) (List.mem_cons_of_mem _ fl_X5_124) dX5_step_22 ?_
    refine lv_istore_n (lv' := [(1, .int (gI q5 14 7)), (0, .ref (P.2.1 0))]) hx hb dX5_step_25 rfl hl (by decide) rfl (fun ls hl => ?_)
    refine lv_iload_n hx hb dX5_step_26 rfl (lv_at hl 0 rfl) ?_
    refine lv_if_ge (tgt := 40) hx hb dX5_step_27 (by decide) (fun c8 => ?_) (fun c8 => ?_)
    · rw [if_pos c8] at h
      refine lv_aload_n hx hb dX5_step_40 rfl (lv_at hl 1 rfl) ?_
      refine vt_getR (r := 4) S hF hP (k := 3) (ci := 5) 0 (hlt _ (by decide)) rfl (by decide) rfl (by decide) rfl rfl (inC_X5 _) (List.mem_cons_of_mem _ fl_X5_25) dX5_step_41 ?_
      refine lv_aload_n hx hb dX5_step_44 rfl (lv_at hl 1 rfl) ?_
      refine vt_getR (r := 1) S hF hP (k := 0) (ci := 5) 0 (hlt _ (by decide)) rfl (by decide) rfl (by decide) rfl rfl (inC_X5 _) (List.mem_cons_of_mem _ fl_X5_12) dX5_step_45 ?_
      obtain ⟨q6, hq6, h⟩ := ob h
      refine vu_v hP (vu_V S hF hP (h := 4) (hlt _ (by decide)) rfl (by decide) rfl (c_X2_keep l P hA hn 1 rfl (by decide) q5 hq6) ok_X2_keep ml_X5_134 ⟨Nat.le_of_ble_eq_true rfl, Nat.le_of_ble_eq_true rfl⟩ rfl hl.1 rfl (Nat.le_of_ble_eq_true rfl) dX5_step_48 ⟨Nat.le_of_ble_eq_true rfl, Nat.le_of_ble_eq_true rfl⟩) (fun H locs hP => ?_)
      refine lv_aload_n hx hb dX5_step_51 rfl (lv_at hl 1 rfl) ?_
      refine vt_getR (r := 1) S hF hP (k := 0) (ci := 5) 0 (hlt _ (by decide)) rfl (by decide) rfl (by decide) rfl rfl (inC_X5 _) (List.mem_cons_of_mem _ fl_X5_12) dX5_step_52 ?_
      refine lv_dup hx hb dX5_step_55 rfl ?_
      refine vt_getI S hF hP (k := 8) (ci := 0) 1 (hlt _ (by decide)) rfl (by decide) rfl (by decide) rfl (inC_X0 _) (List.mem_cons_of_mem _ fl_X5_137) dX5_step_56 ?_
      refine lv_iconst (v := 1) hx hb dX5_step_59 (by decide) ?_
      refine lv_iadd hx hb dX5_step_60 ?_
      refine vt_putI S hF hP (k := 8) (ci := 0) 1 (hlt _ (by decide)) rfl (by decide) rfl (by decide) rfl tyX0 tyX0_ok nmX0 rfl rfl rfl rfl (by decide) (inC_X0 _) (List.mem_cons_of_mem _ fl_X5_137) dX5_step_61 (fun H locs hP => ?_)
      exact hB64 _ _ h _ _ _ hP (lv_sub hl [1, 0] rfl)
    · rw [if_neg c8] at h
      obtain rfl := Option.some.inj h
      exact ve_thr4 hst S hF hP (is := 129) (text := "the goal is more than 3 turns away") (by decide +kernel) hl.1 hk hxt dX5_step_30 dX5_step_33 dX5_step_34 dX5_step_36 dX5_step_39 ⟨Nat.le_of_ble_eq_true rfl, Nat.le_of_ble_eq_true rfl, Nat.le_of_ble_eq_true rfl, Nat.le_of_ble_eq_true rfl⟩ (by decide) (by decide)
set_option maxRecDepth 100000 in
set_option maxHeartbeats 4000000 in
theorem c_X5_needIndex (l : Launch) (P : Pl) (hA : Adr P) (hn : 26 ≤ P.2.2.2.1) (hst : l.stackTraces = false) (w : Wo) (x0 : Int32) {r : (Nat × Wo) ⊕ Wo} (h : F_X5_needIndex w x0 = some r) : CxV l P yX5_needIndex cX5_needIndex 1 none 6 1 [.int x0] w r := by
  have hlt : ∀ h, h < 26 → h < P.2.2.2.1 := fun h q => Nat.lt_of_lt_of_le q hn
  refine vs_vx hA (by decide +kernel) (Nat.le_of_ble_eq_true rfl) (fun p e s m args below meth c ls S hF hP hl hr hk hxt => ?_)
  have hx := S.1
  have hb := S.2.1
  replace hl : lv_has ls 1 [(0, .int x0)] := hl
  unfold F_X5_needIndex at h
  refine lv_iload_n hx hb dX5_needIndex_0 rfl (lv_at hl 0 rfl) ?_
  refine lv_if_ne (tgt := 15) hx hb dX5_needIndex_1 (by decide) (fun c1 => ?_) (fun c1 => ?_)
  · rw [if_neg c1] at h
    obtain rfl := Option.some.inj h
    exact ve_xv S hF hP hr hk (by decide) (by decide) dX5_needIndex_15
  · rw [if_pos c1] at h
    obtain rfl := Option.some.inj h
    exact ve_thrW hst S hF hP (fun _ z => List.mem_cons_of_mem _ z) (is := 316) (text := "no such place, line, turn or index") rfl th_314_318.1 th_314_318.2.1 th_314_318.2.2.1 (by decide +kernel) th_314_318.2.2.2.1 th_314_318.2.2.2.2 hl.1 hk hxt dX5_needIndex_4 dX5_needIndex_7 dX5_needIndex_8 dX5_needIndex_11 dX5_needIndex_14 ⟨Nat.le_of_ble_eq_true rfl, Nat.le_of_ble_eq_true rfl, Nat.le_of_ble_eq_true rfl, Nat.le_of_ble_eq_true rfl⟩ (by decide) (by decide)
set_option maxRecDepth 100000 in
set_option maxHeartbeats 4000000 in
theorem c_X5_letter (l : Launch) (P : Pl) (hA : Adr P) (hn : 26 ≤ P.2.2.2.1) (hst : l.stackTraces = false) (w : Wo) (x1 : Int32) {r : (Nat × Wo) ⊕ (Int32 × Wo)} (h : F_X5_letter w x1 = some r) : CxI l P yX5_letter cX5_letter 2 (some .char) 7 1 [.ref (P.2.1 0), .int x1] w r := by
  have hlt : ∀ h, h < 26 → h < P.2.2.2.1 := fun h q => Nat.lt_of_lt_of_le q hn
  refine vs_vx hA (by decide +kernel) (Nat.le_of_ble_eq_true rfl) (fun p e s m args below meth c ls S hF hP hl hr hk hxt => ?_)
  have hx := S.1
  have hb := S.2.1
  replace hl : lv_has ls 2 [(0, .ref (P.2.1 0)), (1, .int x1)] := hl
  unfold F_X5_letter at h
  refine lv_aload_n hx hb dX5_letter_0 rfl (lv_at hl 0 rfl) ?_
  refine vt_getR (r := 1) S hF hP (k := 0) (ci := 5) 0 (hlt _ (by decide)) rfl (by decide) rfl (by decide) rfl rfl (inC_X5 _) (List.mem_cons_of_mem _ fl_X5_12) dX5_letter_1 ?_
  refine lv_iload_n hx hb dX5_letter_4 rfl (lv_at hl 1 rfl) ?_
  refine vu_i hP (vu_V S hF hP (h := 1) (hlt _ (by decide)) rfl (by decide) rfl (c_X0_hasPlace l P hA hn w x1) ok_X0_hasPlace ml_X5_143 ⟨Nat.le_of_ble_eq_true rfl, Nat.le_of_ble_eq_true rfl⟩ rfl hl.1 rfl (Nat.le_of_ble_eq_true rfl) dX5_letter_5 ⟨Nat.le_of_ble_eq_true rfl, Nat.le_of_ble_eq_true rfl⟩) (fun H locs ho1 hP => ?_)
  obtain ⟨q2, hq2, h⟩ := ob h
  refine vu_xv hP (vu_SX S hF hP (c_X5_needIndex l P hA hn hst w (F_X0_hasPlace w x1) hq2) ok_X5_needIndex ml_X5_146 ⟨Nat.le_of_ble_eq_true rfl, Nat.le_of_ble_eq_true rfl⟩ rfl hl.1 rfl (Nat.le_of_ble_eq_true rfl) dX5_letter_8 ⟨Nat.le_of_ble_eq_true rfl, Nat.le_of_ble_eq_true rfl⟩) (fun H locs u ce q9 ho hP e1 e2 e3 => ?_) (fun H locs uv3 ho hP => ?_)
  · subst ho
    obtain rfl := Option.some.inj h
    exact ve_out hF hP hk hxt e1 e2 e3 (by decide) (by decide)
  · subst ho
    rw [Sum.elim_inr] at h
    refine lv_aload_n hx hb dX5_letter_11 rfl (lv_at hl 0 rfl) ?_
    refine vt_getR (r := 1) S hF hP (k := 0) (ci := 5) 0 (hlt _ (by decide)) rfl (by decide) rfl (by decide) rfl rfl (inC_X5 _) (List.mem_cons_of_mem _ fl_X5_12) dX5_letter_12 ?_
    refine vt_getL S hF hP (k := 2) (ci := 0) 1 (hlt _ (by decide)) rfl (by decide) rfl (by decide) rfl (inC_X0 _) (List.mem_cons_of_mem _ fl_X5_83) dX5_letter_15 ?_
    refine lv_iload_n hx hb dX5_letter_18 rfl (lv_at hl 1 rfl) ?_
    refine vu_i hP (vu_S S hF hP (c_X5_codeAt l P hA hn uv3 (gL uv3 1 2) x1) ok_X5_codeAt ml_X5_91 ⟨Nat.le_of_ble_eq_true rfl, Nat.le_of_ble_eq_true rfl⟩ rfl hl.1 rfl (Nat.le_of_ble_eq_true rfl) dX5_letter_19 ⟨Nat.le_of_ble_eq_true rfl, Nat.le_of_ble_eq_true rfl⟩) (fun H locs ho4 hP => ?_)
    refine vu_i hP (vu_S S hF hP (c_X5_signOf l P hA hn uv3 (F_X5_codeAt (gL uv3 1 2) x1)) ok_X5_signOf ml_X5_95 ⟨Nat.le_of_ble_eq_true rfl, Nat.le_of_ble_eq_true rfl⟩ rfl hl.1 rfl (Nat.le_of_ble_eq_true rfl) dX5_letter_22 ⟨Nat.le_of_ble_eq_true rfl, Nat.le_of_ble_eq_true rfl⟩) (fun H locs ho5 hP => ?_)
    obtain rfl := Option.some.inj h
    exact ve_xi (v := (F_X5_signOf (F_X5_codeAt (gL uv3 1 2) x1))) S hF hP hr hk ho5 (by decide) (by decide) dX5_letter_25
set_option maxRecDepth 100000 in
set_option maxHeartbeats 4000000 in
theorem c_X5_sign (l : Launch) (P : Pl) (hA : Adr P) (hn : 26 ≤ P.2.2.2.1) (hst : l.stackTraces = false) (w : Wo) (x1 : Int32) {r : (Nat × Wo) ⊕ (Int32 × Wo)} (h : F_X5_sign w x1 = some r) : CxI l P yX5_sign cX5_sign 2 (some .char) 7 1 [.ref (P.2.1 0), .int x1] w r := by
  have hlt : ∀ h, h < 26 → h < P.2.2.2.1 := fun h q => Nat.lt_of_lt_of_le q hn
  refine vs_vx hA (by decide +kernel) (Nat.le_of_ble_eq_true rfl) (fun p e s m args below meth c ls S hF hP hl hr hk hxt => ?_)
  have hx := S.1
  have hb := S.2.1
  replace hl : lv_has ls 2 [(0, .ref (P.2.1 0)), (1, .int x1)] := hl
  unfold F_X5_sign at h
  refine lv_aload_n hx hb dX5_sign_0 rfl (lv_at hl 0 rfl) ?_
  refine vt_getR (r := 1) S hF hP (k := 0) (ci := 5) 0 (hlt _ (by decide)) rfl (by decide) rfl (by decide) rfl rfl (inC_X5 _) (List.mem_cons_of_mem _ fl_X5_12) dX5_sign_1 ?_
  refine lv_iload_n hx hb dX5_sign_4 rfl (lv_at hl 1 rfl) ?_
  refine vu_i hP (vu_V S hF hP (h := 1) (hlt _ (by decide)) rfl (by decide) rfl (c_X0_hasPlace l P hA hn w x1) ok_X0_hasPlace ml_X5_143 ⟨Nat.le_of_ble_eq_true rfl, Nat.le_of_ble_eq_true rfl⟩ rfl hl.1 rfl (Nat.le_of_ble_eq_true rfl) dX5_sign_5 ⟨Nat.le_of_ble_eq_true rfl, Nat.le_of_ble_eq_true rfl⟩) (fun H locs ho1 hP => ?_)
  obtain ⟨q2, hq2, h⟩ := ob h
  refine vu_xv hP (vu_SX S hF hP (c_X5_needIndex l P hA hn hst w (F_X0_hasPlace w x1) hq2) ok_X5_needIndex ml_X5_146 ⟨Nat.le_of_ble_eq_true rfl, Nat.le_of_ble_eq_true rfl⟩ rfl hl.1 rfl (Nat.le_of_ble_eq_true rfl) dX5_sign_8 ⟨Nat.le_of_ble_eq_true rfl, Nat.le_of_ble_eq_true rfl⟩) (fun H locs u ce q9 ho hP e1 e2 e3 => ?_) (fun H locs uv3 ho hP => ?_)
  · subst ho
    obtain rfl := Option.some.inj h
    exact ve_out hF hP hk hxt e1 e2 e3 (by decide) (by decide)
  · subst ho
    rw [Sum.elim_inr] at h
    refine lv_aload_n hx hb dX5_sign_11 rfl (lv_at hl 0 rfl) ?_
    refine vt_getR (r := 1) S hF hP (k := 0) (ci := 5) 0 (hlt _ (by decide)) rfl (by decide) rfl (by decide) rfl rfl (inC_X5 _) (List.mem_cons_of_mem _ fl_X5_12) dX5_sign_12 ?_
    refine vt_getL S hF hP (k := 3) (ci := 0) 1 (hlt _ (by decide)) rfl (by decide) rfl (by decide) rfl (inC_X0 _) (List.mem_cons_of_mem _ fl_X5_99) dX5_sign_15 ?_
    refine lv_iload_n hx hb dX5_sign_18 rfl (lv_at hl 1 rfl) ?_
    refine vu_i hP (vu_S S hF hP (c_X5_codeAt l P hA hn uv3 (gL uv3 1 3) x1) ok_X5_codeAt ml_X5_91 ⟨Nat.le_of_ble_eq_true rfl, Nat.le_of_ble_eq_true rfl⟩ rfl hl.1 rfl (Nat.le_of_ble_eq_true rfl) dX5_sign_19 ⟨Nat.le_of_ble_eq_true rfl, Nat.le_of_ble_eq_true rfl⟩) (fun H locs ho4 hP => ?_)
    refine vu_i hP (vu_S S hF hP (c_X5_signOf l P hA hn uv3 (F_X5_codeAt (gL uv3 1 3) x1)) ok_X5_signOf ml_X5_95 ⟨Nat.le_of_ble_eq_true rfl, Nat.le_of_ble_eq_true rfl⟩ rfl hl.1 rfl (Nat.le_of_ble_eq_true rfl) dX5_sign_22 ⟨Nat.le_of_ble_eq_true rfl, Nat.le_of_ble_eq_true rfl⟩) (fun H locs ho5 hP => ?_)
    obtain rfl := Option.some.inj h
    exact ve_xi (v := (F_X5_signOf (F_X5_codeAt (gL uv3 1 3) x1))) S hF hP hr hk ho5 (by decide) (by decide) dX5_sign_25
set_option maxRecDepth 100000 in
set_option maxHeartbeats 4000000 in
theorem c_X5_isBarred (l : Launch) (P : Pl) (hA : Adr P) (hn : 26 ≤ P.2.2.2.1) (hst : l.stackTraces = false) (w : Wo) (x1 : Int32) {r : (Nat × Wo) ⊕ (Int32 × Wo)} (h : F_X5_isBarred w x1 = some r) : CxI l P yX5_isBarred cX5_isBarred 2 (some .boolean) 7 1 [.ref (P.2.1 0), .int x1] w r := by
  have hlt : ∀ h, h < 26 → h < P.2.2.2.1 := fun h q => Nat.lt_of_lt_of_le q hn
  refine vs_vx hA (by decide +kernel) (Nat.le_of_ble_eq_true rfl) (fun p e s m args below meth c ls S hF hP hl hr hk hxt => ?_)
  have hx := S.1
  have hb := S.2.1
  replace hl : lv_has ls 2 [(0, .ref (P.2.1 0)), (1, .int x1)] := hl
  unfold F_X5_isBarred at h
  refine lv_aload_n hx hb dX5_isBarred_0 rfl (lv_at hl 0 rfl) ?_
  refine vt_getR (r := 1) S hF hP (k := 0) (ci := 5) 0 (hlt _ (by decide)) rfl (by decide) rfl (by decide) rfl rfl (inC_X5 _) (List.mem_cons_of_mem _ fl_X5_12) dX5_isBarred_1 ?_
  refine lv_iload_n hx hb dX5_isBarred_4 rfl (lv_at hl 1 rfl) ?_
  refine vu_i hP (vu_V S hF hP (h := 1) (hlt _ (by decide)) rfl (by decide) rfl (c_X0_hasLine l P hA hn w x1) ok_X0_hasLine ml_X5_150 ⟨Nat.le_of_ble_eq_true rfl, Nat.le_of_ble_eq_true rfl⟩ rfl hl.1 rfl (Nat.le_of_ble_eq_true rfl) dX5_isBarred_5 ⟨Nat.le_of_ble_eq_true rfl, Nat.le_of_ble_eq_true rfl⟩) (fun H locs ho1 hP => ?_)
  obtain ⟨q2, hq2, h⟩ := ob h
  refine vu_xv hP (vu_SX S hF hP (c_X5_needIndex l P hA hn hst w (F_X0_hasLine w x1) hq2) ok_X5_needIndex ml_X5_146 ⟨Nat.le_of_ble_eq_true rfl, Nat.le_of_ble_eq_true rfl⟩ rfl hl.1 rfl (Nat.le_of_ble_eq_true rfl) dX5_isBarred_8 ⟨Nat.le_of_ble_eq_true rfl, Nat.le_of_ble_eq_true rfl⟩) (fun H locs u ce q9 ho hP e1 e2 e3 => ?_) (fun H locs uv3 ho hP => ?_)
  · subst ho
    obtain rfl := Option.some.inj h
    exact ve_out hF hP hk hxt e1 e2 e3 (by decide) (by decide)
  · subst ho
    rw [Sum.elim_inr] at h
    refine lv_aload_n hx hb dX5_isBarred_11 rfl (lv_at hl 0 rfl) ?_
    refine vt_getR (r := 1) S hF hP (k := 0) (ci := 5) 0 (hlt _ (by decide)) rfl (by decide) rfl (by decide) rfl rfl (inC_X5 _) (List.mem_cons_of_mem _ fl_X5_12) dX5_isBarred_12 ?_
    refine lv_iload_n hx hb dX5_isBarred_15 rfl (lv_at hl 1 rfl) ?_
    refine vu_i hP (vu_V S hF hP (h := 1) (hlt _ (by decide)) rfl (by decide) rfl (c_X0_hasBar l P hA hn uv3 x1) ok_X0_hasBar ml_X5_106 ⟨Nat.le_of_ble_eq_true rfl, Nat.le_of_ble_eq_true rfl⟩ rfl hl.1 rfl (Nat.le_of_ble_eq_true rfl) dX5_isBarred_16 ⟨Nat.le_of_ble_eq_true rfl, Nat.le_of_ble_eq_true rfl⟩) (fun H locs ho4 hP => ?_)
    obtain rfl := Option.some.inj h
    exact ve_xi (v := (F_X0_hasBar uv3 x1)) S hF hP hr hk ho4 (by decide) (by decide) dX5_isBarred_19
set_option maxRecDepth 100000 in
set_option maxHeartbeats 4000000 in
theorem c_J6_bitCount_0f7a4 (l : Launch) (P : Pl) (hA : Adr P) (hn : 26 ≤ P.2.2.2.1) (w : Wo) (x0 : Int32) : CtI l P yJ6_bitCount_0f7a4 cJ6_bitCount_0f7a4 1 (some .int) 0 [.int x0] w (F_J6_bitCount_0f7a4 x0) w := by
  have hlt : ∀ h, h < 26 → h < P.2.2.2.1 := fun h q => Nat.lt_of_lt_of_le q hn
  obtain ⟨r, h⟩ : ∃ r, F_J6_bitCount_0f7a4 x0 = r := ⟨_, rfl⟩
  rw [h]
  refine vs_met hA (by decide +kernel) (Nat.le_of_ble_eq_true rfl) (fun p e s m args below meth c ls S hF hP hl hr hk => ?_)
  have hx := S.1
  have hb := S.2.1
  replace hl : lv_has ls 1 [(0, .int x0)] := hl
  have hB48 : ∀ (x0 : Int32), B_J6_bitCount_0f7a4_48 x0 = r → ∀ (H : Heap) (locs : List Loc) (ls : Array Slot), St P s w H locs → lv_has ls 1 [(0, .int x0)] → W p l e (rmU 0 0 0) s m args below meth c H locs 0 0 (QI P (some .int) r w below args s) (F0 m 48 ls []) := by
    intro x0 h H locs ls hP hl
    unfold B_J6_bitCount_0f7a4_48 at h
    refine lv_iload_n hx hb dJ6_bitCount_0f7a4_48 rfl (lv_at hl 0 rfl) ?_
    refine lv_bipush (v := 63) hx hb dJ6_bitCount_0f7a4_49 (by decide) ?_
    refine lv_iand hx hb dJ6_bitCount_0f7a4_51 ?_
    subst h
    exact ve_i (v := (x0 &&& (63 : Int32))) S hF hP hr hk rfl dJ6_bitCount_0f7a4_52
  have hB34 : ∀ (x0 : Int32), B_J6_bitCount_0f7a4_34 x0 = r → ∀ (H : Heap) (locs : List Loc) (ls : Array Slot), St P s w H locs → lv_has ls 1 [(0, .int x0)] → W p l e (rmU 0 0 0) s m args below meth c H locs 0 0 (QI P (some .int) r w below args s) (F0 m 34 ls []) := by
    intro x0 h H locs ls hP hl
    unfold B_J6_bitCount_0f7a4_34 at h
    refine lv_iload_n hx hb dJ6_bitCount_0f7a4_34 rfl (lv_at hl 0 rfl) ?_
    refine lv_iload_n hx hb dJ6_bitCount_0f7a4_35 rfl (lv_at hl 0 rfl) ?_
    refine lv_bipush (v := 8) hx hb dJ6_bitCount_0f7a4_36 (by decide) ?_
    refine lv_iushr hx hb dJ6_bitCount_0f7a4_38 rfl ?_
    refine lv_iadd hx hb dJ6_bitCount_0f7a4_39 ?_
    refine lv_istore_n (lv' := [(0, .int (x0 + (jushr x0 (8 : Int32))))]) hx hb dJ6_bitCount_0f7a4_40 rfl hl (by decide) rfl (fun ls hl => ?_)
    refine lv_iload_n hx hb dJ6_bitCount_0f7a4_41 rfl (lv_at hl 0 rfl) ?_
    refine lv_iload_n hx hb dJ6_bitCount_0f7a4_42 rfl (lv_at hl 0 rfl) ?_
    refine lv_bipush (v := 16) hx hb dJ6_bitCount_0f7a4_43 (by decide) ?_
    refine lv_iushr hx hb dJ6_bitCount_0f7a4_45 rfl ?_
    refine lv_iadd hx hb dJ6_bitCount_0f7a4_46 ?_
    refine lv_istore_n (lv' := [(0, .int ((x0 + (jushr x0 (8 : Int32))) + (jushr (x0 + (jushr x0 (8 : Int32))) (16 : Int32))))]) hx hb dJ6_bitCount_0f7a4_47 rfl hl (by decide) rfl (fun ls hl => ?_)
    exact hB48 _ h _ _ _ hP (lv_sub hl [0] rfl)
  have hB24 : ∀ (x0 : Int32), B_J6_bitCount_0f7a4_24 x0 = r → ∀ (H : Heap) (locs : List Loc) (ls : Array Slot), St P s w H locs → lv_has ls 1 [(0, .int x0)] → W p l e (rmU 0 0 0) s m args below meth c H locs 0 0 (QI P (some .int) r w below args s) (F0 m 24 ls []) := by
    intro x0 h H locs ls hP hl
    unfold B_J6_bitCount_0f7a4_24 at h
    refine lv_iload_n hx hb dJ6_bitCount_0f7a4_24 rfl (lv_at hl 0 rfl) ?_
    refine lv_iload_n hx hb dJ6_bitCount_0f7a4_25 rfl (lv_at hl 0 rfl) ?_
    refine lv_iconst (v := 4) hx hb dJ6_bitCount_0f7a4_26 (by decide) ?_
    refine lv_iushr hx hb dJ6_bitCount_0f7a4_27 rfl ?_
    refine lv_iadd hx hb dJ6_bitCount_0f7a4_28 ?_
    refine lv_ldcw (v := 252645135) hx hb S.2.2.2.1 (S.2.2.2.2 _ (List.mem_cons_of_mem _ ci_J6_267)) dJ6_bitCount_0f7a4_29 ?_
    refine lv_iand hx hb dJ6_bitCount_0f7a4_32 ?_
    refine lv_istore_n (lv' := [(0, .int ((x0 + (jushr x0 (4 : Int32))) &&& (252645135 : Int32)))]) hx hb dJ6_bitCount_0f7a4_33 rfl hl (by decide) rfl (fun ls hl => ?_)
    exact hB34 _ h _ _ _ hP (lv_sub hl [0] rfl)
  have hB10 : ∀ (x0 : Int32), B_J6_bitCount_0f7a4_10 x0 = r → ∀ (H : Heap) (locs : List Loc) (ls : Array Slot), St P s w H locs → lv_has ls 1 [(0, .int x0)] → W p l e (rmU 0 0 0) s m args below meth c H locs 0 0 (QI P (some .int) r w below args s) (F0 m 10 ls []) := by
    intro x0 h H locs ls hP hl
    unfold B_J6_bitCount_0f7a4_10 at h
    refine lv_iload_n hx hb dJ6_bitCount_0f7a4_10 rfl (lv_at hl 0 rfl) ?_
    refine lv_ldcw (v := 858993459) hx hb S.2.2.2.1 (S.2.2.2.2 _ (List.mem_cons_of_mem _ ci_J6_266)) dJ6_bitCount_0f7a4_11 ?_
    refine lv_iand hx hb dJ6_bitCount_0f7a4_14 ?_
    refine lv_iload_n hx hb dJ6_bitCount_0f7a4_15 rfl (lv_at hl 0 rfl) ?_
    refine lv_iconst (v := 2) hx hb dJ6_bitCount_0f7a4_16 (by decide) ?_
    refine lv_iushr hx hb dJ6_bitCount_0f7a4_17 rfl ?_
    refine lv_ldcw (v := 858993459) hx hb S.2.2.2.1 (S.2.2.2.2 _ (List.mem_cons_of_mem _ ci_J6_266)) dJ6_bitCount_0f7a4_18 ?_
    refine lv_iand hx hb dJ6_bitCount_0f7a4_21 ?_
    refine lv_iadd hx hb dJ6_bitCount_0f7a4_22 ?_
    refine lv_istore_n (lv' := [(0, .int ((x0 &&& (858993459 : Int32)) + ((jushr x0 (2 : Int32)) &&& (858993459 : Int32))))]) hx hb dJ6_bitCount_0f7a4_23 rfl hl (by decide) rfl (fun ls hl => ?_)
    exact hB24 _ h _ _ _ hP (lv_sub hl [0] rfl)
  unfold F_J6_bitCount_0f7a4 at h
  refine lv_iload_n hx hb dJ6_bitCount_0f7a4_0 rfl (lv_at hl 0 rfl) ?_
  refine lv_iload_n hx hb dJ6_bitCount_0f7a4_1 rfl (lv_at hl 0 rfl) ?_
  refine lv_iconst (v := 1) hx hb dJ6_bitCount_0f7a4_2 (by decide) ?_
  refine lv_iushr hx hb dJ6_bitCount_0f7a4_3 rfl ?_
  refine lv_ldcw (v := 1431655765) hx hb S.2.2.2.1 (S.2.2.2.2 _ (List.mem_cons_of_mem _ ci_J6_265)) dJ6_bitCount_0f7a4_4 ?_
  refine lv_iand hx hb dJ6_bitCount_0f7a4_7 ?_
  refine lv_isub hx hb dJ6_bitCount_0f7a4_8 ?_
  refine lv_istore_n (lv' := [(0, .int (x0 - ((jushr x0 (1 : Int32)) &&& (1431655765 : Int32))))]) hx hb dJ6_bitCount_0f7a4_9 rfl hl (by decide) rfl (fun ls hl => ?_)
  exact hB10 _ h _ _ _ hP (lv_sub hl [0] rfl)
