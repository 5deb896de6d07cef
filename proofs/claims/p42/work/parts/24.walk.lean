set_option maxRecDepth 100000 in
set_option maxHeartbeats 4000000 in
theorem c_X5_singing (l : Launch) (P : Pl) (hA : Adr P) (hn : 26 ≤ P.2.2.2.1) (w : Wo) {r : Int32} (h : F_X5_singing w = some r) : CtI l P yX5_singing cX5_singing 3 (some .int) 5 [.ref (P.2.1 0)] w r w := by
  have hlt : ∀ h, h < 26 → h < P.2.2.2.1 := fun h q => Nat.lt_of_lt_of_le q hn
  refine vs_met hA (by decide +kernel) (Nat.le_of_ble_eq_true rfl) (fun p e s m args below meth c ls S hF hP hl hr hk => ?_)
  have hx := S.1
  have hb := S.2.1
  replace hl : lv_has ls 3 [(0, .ref (P.2.1 0))] := hl
  have hL4 : ∀ (n : Nat) (x1 : Int32) (x2 : Int32), jl2 (B_X5_singing_4 w) n x1 x2 = some r → ∀ (H : Heap) (locs : List Loc) (ls : Array Slot), St P s w H locs → lv_has ls 3 [(0, .ref (P.2.1 0)), (1, .int x1), (2, .int x2)] → W p l e (rmU 5 0 0) s m args below meth c H locs 0 0 (QI P (some .int) r w below args s) (F0 m 4 ls []) := by
    intro n
    induction n with
    | zero =>
      intro x1 x2 h
      cases h
    | succ n ih4 =>
      intro x1 x2 h H locs ls hP hl
      replace h : B_X5_singing_4 w (jl2 (B_X5_singing_4 w) n) x1 x2 = some r := h
      revert h ih4
      generalize jl2 (B_X5_singing_4 w) n = k4
      intro ih4 h
      have hB29 : ∀ (x1 : Int32) (x2 : Int32), B_X5_singing_29 k4 w x1 x2 = some r → ∀ (H : Heap) (locs : List Loc) (ls : Array Slot), St P s w H locs → lv_has ls 3 [(0, .ref (P.2.1 0)), (1, .int x1), (2, .int x2)] → W p l e (rmU 5 0 0) s m args below meth c H locs 0 0 (QI P (some .int) r w below args s) (F0 m 29 ls []) := by
        intro x1 x2 h H locs ls hP hl
        unfold B_X5_singing_29 at h
        refine lv_iinc (v := (x2 + 1)) (lv' := [(2, .int (x2 + 1)), (0, .ref (P.2.1 0)), (1, .int x1)]) hx hb dX5_singing_29 hl (k := 2) rfl rfl (by decide) rfl (fun ls hl => ?_)
        refine lv_goto (tgt := 4) hx hb dX5_singing_32 (by decide) ?_
        exact ih4 _ _ h _ _ _ hP (lv_sub hl [1, 2, 0] rfl)
      unfold B_X5_singing_4 at h
      refine lv_iload_n hx hb dX5_singing_4 rfl (lv_at hl 2 rfl) ?_
      refine lv_aload_n hx hb dX5_singing_5 rfl (lv_at hl 0 rfl) ?_
      refine vt_getR (r := 1) S hF hP (k := 0) (ci := 5) 0 (hlt _ (by decide)) rfl (by decide) rfl (by decide) rfl rfl (inC_X5 _) (List.mem_cons_of_mem _ fl_X5_12) dX5_singing_6 ?_
      refine vu_i hP (vu_V S hF hP (h := 1) (hlt _ (by decide)) rfl (by decide) rfl (c_X0_lines l P hA hn w) ok_X0_lines ml_X5_228 ⟨Nat.le_of_ble_eq_true rfl, Nat.le_of_ble_eq_true rfl⟩ rfl hl.1 rfl (Nat.le_of_ble_eq_true rfl) dX5_singing_9 ⟨Nat.le_of_ble_eq_true rfl, Nat.le_of_ble_eq_true rfl⟩) (fun H locs ho1 hP => ?_)
      refine lv_icmp_ge (tgt := 35) hx hb dX5_singing_12 (by decide) (fun c4 => ?_) (fun c4 => ?_)
      · rw [if_pos c4] at h
        refine lv_iload_n hx hb dX5_singing_35 rfl (lv_at hl 1 rfl) ?_
        obtain rfl := Option.some.inj h
        exact ve_i (v := x1) S hF hP hr hk rfl dX5_singing_36
      · rw [if_neg c4] at h
        refine lv_aload_n hx hb dX5_singing_15 rfl (lv_at hl 0 rfl) ?_
        refine vt_getR (r := 1) S hF hP (k := 0) (ci := 5) 0 (hlt _ (by decide)) rfl (by decide) rfl (by decide) rfl rfl (inC_X5 _) (List.mem_cons_of_mem _ fl_X5_12) dX5_singing_16 ?_
        refine lv_iload_n hx hb dX5_singing_19 rfl (lv_at hl 2 rfl) ?_
        obtain ⟨q2, hq2, h⟩ := ob h
        refine vu_i hP (vu_V S hF hP (h := 1) (hlt _ (by decide)) rfl (by decide) rfl (c_X0_hasSong l P hA hn w x2 hq2) ok_X0_hasSong ml_X5_225 ⟨Nat.le_of_ble_eq_true rfl, Nat.le_of_ble_eq_true rfl⟩ rfl hl.1 rfl (Nat.le_of_ble_eq_true rfl) dX5_singing_20 ⟨Nat.le_of_ble_eq_true rfl, Nat.le_of_ble_eq_true rfl⟩) (fun H locs ho3 hP => ?_)
        refine lv_if_eq (tgt := 29) hx hb dX5_singing_23 (by decide) (fun c5 => ?_) (fun c5 => ?_)
        · rw [if_pos c5] at h
          exact hB29 _ _ h _ _ _ hP (lv_sub hl [0, 1, 2] rfl)
        · rw [if_neg c5] at h
          refine lv_iinc (v := (x1 + 1)) (lv' := [(1, .int (x1 + 1)), (0, .ref (P.2.1 0)), (2, .int x2)]) hx hb dX5_singing_26 hl (k := 1) rfl rfl (by decide) rfl (fun ls hl => ?_)
          exact hB29 _ _ h _ _ _ hP (lv_sub hl [1, 0, 2] rfl)
  unfold F_X5_singing at h
  refine lv_iconst (v := 0) hx hb dX5_singing_0 (by decide) ?_
  refine lv_istore_n (lv' := [(1, .int 0), (0, .ref (P.2.1 0))]) hx hb dX5_singing_1 rfl hl (by decide) rfl (fun ls hl => ?_)
  refine lv_iconst (v := 0) hx hb dX5_singing_2 (by decide) ?_
  refine lv_istore_n (lv' := [(2, .int 0), (1, .int 0), (0, .ref (P.2.1 0))]) hx hb dX5_singing_3 rfl hl (by decide) rfl (fun ls hl => ?_)
  exact hL4 fu _ _ h _ _ _ hP (lv_sub hl [2, 1, 0] rfl)
set_option maxRecDepth 100000 in
set_option maxHeartbeats 4000000 in
theorem c_X0_lineByVowels (l : Launch) (P : Pl) (hA : Adr P) (hn : 26 ≤ P.2.2.2.1) (w : Wo) (x1 : Int32) {r : Int32} (h : F_X0_lineByVowels w x1 = some r) : CtI l P yX0_lineByVowels cX0_lineByVowels 5 (some .int) 4 [.ref (P.2.1 1), .int x1] w r w := by
  have hlt : ∀ h, h < 26 → h < P.2.2.2.1 := fun h q => Nat.lt_of_lt_of_le q hn
  refine vs_met hA (by decide +kernel) (Nat.le_of_ble_eq_true rfl) (fun p e s m args below meth c ls S hF hP hl hr hk => ?_)
  have hx := S.1
  have hb := S.2.1
  replace hl : lv_has ls 5 [(0, .ref (P.2.1 1)), (1, .int x1)] := hl
  have hL4 : ∀ (x1 : Int32) (n : Nat) (x2 : Int32) (x3 : Int32), jl2 (B_X0_lineByVowels_4 w x1) n x2 x3 = some r → ∀ (H : Heap) (locs : List Loc) (ls : Array Slot), St P s w H locs → lv_has ls 5 [(0, .ref (P.2.1 1)), (1, .int x1), (2, .int x2), (3, .int x3)] → W p l e (rmU 4 0 0) s m args below meth c H locs 0 0 (QI P (some .int) r w below args s) (F0 m 4 ls []) := by
    intro x1
    intro n
    induction n with
    | zero =>
      intro x2 x3 h
      cases h
    | succ n ih4 =>
      intro x2 x3 h H locs ls hP hl
      replace h : B_X0_lineByVowels_4 w x1 (jl2 (B_X0_lineByVowels_4 w x1) n) x2 x3 = some r := h
      revert h ih4
      generalize jl2 (B_X0_lineByVowels_4 w x1) n = k4
      intro ih4 h
      have hB47 : ∀ (x2 : Int32) (x3 : Int32), B_X0_lineByVowels_47 k4 w x1 x2 x3 = some r → ∀ (H : Heap) (locs : List Loc) (ls : Array Slot), St P s w H locs → lv_has ls 5 [(0, .ref (P.2.1 1)), (1, .int x1), (2, .int x2), (3, .int x3)] → W p l e (rmU 4 0 0) s m args below meth c H locs 0 0 (QI P (some .int) r w below args s) (F0 m 47 ls []) := by
        intro x2 x3 h H locs ls hP hl
        unfold B_X0_lineByVowels_47 at h
        refine lv_iinc (v := (x3 + (-1))) (lv' := [(3, .int (x3 + (-1))), (0, .ref (P.2.1 1)), (1, .int x1), (2, .int x2)]) hx hb dX0_lineByVowels_47 hl (k := 3) rfl (congrArg _ (by decide)) (by decide) rfl (fun ls hl => ?_)
        refine lv_goto (tgt := 4) hx hb dX0_lineByVowels_50 (by decide) ?_
        exact ih4 _ _ h _ _ _ hP (lv_sub hl [1, 2, 3, 0] rfl)
      have hL11 : ∀ (x3 : Int32) (n : Nat) (x2 : Int32) (x4 : Int32), jl2 (B_X0_lineByVowels_11 k4 w x1 x3) n x2 x4 = some r → ∀ (H : Heap) (locs : List Loc) (ls : Array Slot), St P s w H locs → lv_has ls 5 [(0, .ref (P.2.1 1)), (1, .int x1), (2, .int x2), (3, .int x3), (4, .int x4)] → W p l e (rmU 4 0 0) s m args below meth c H locs 0 0 (QI P (some .int) r w below args s) (F0 m 11 ls []) := by
        intro x3
        intro n
        induction n with
        | zero =>
          intro x2 x4 h
          cases h
        | succ n ih11 =>
          intro x2 x4 h H locs ls hP hl
          replace h : B_X0_lineByVowels_11 k4 w x1 x3 (jl2 (B_X0_lineByVowels_11 k4 w x1 x3) n) x2 x4 = some r := h
          revert h ih11
          generalize jl2 (B_X0_lineByVowels_11 k4 w x1 x3) n = k11
          intro ih11 h
          have hB41 : ∀ (x2 : Int32) (x4 : Int32), B_X0_lineByVowels_41 k4 k11 w x1 x2 x3 x4 = some r → ∀ (H : Heap) (locs : List Loc) (ls : Array Slot), St P s w H locs → lv_has ls 5 [(0, .ref (P.2.1 1)), (1, .int x1), (2, .int x2), (3, .int x3), (4, .int x4)] → W p l e (rmU 4 0 0) s m args below meth c H locs 0 0 (QI P (some .int) r w below args s) (F0 m 41 ls []) := by
            intro x2 x4 h H locs ls hP hl
            unfold B_X0_lineByVowels_41 at h
            refine lv_iinc (v := (x4 + 1)) (lv' := [(4, .int (x4 + 1)), (0, .ref (P.2.1 1)), (1, .int x1), (2, .int x2), (3, .int x3)]) hx hb dX0_lineByVowels_41 hl (k := 4) rfl rfl (by decide) rfl (fun ls hl => ?_)
            refine lv_goto (tgt := 11) hx hb dX0_lineByVowels_44 (by decide) ?_
            exact ih11 _ _ h _ _ _ hP (lv_sub hl [1, 2, 3, 4, 0] rfl)
          unfold B_X0_lineByVowels_11 at h
          refine lv_iload hx hb dX0_lineByVowels_11 (lv_at hl 4 rfl) ?_
          refine lv_aload_n hx hb dX0_lineByVowels_13 rfl (lv_at hl 0 rfl) ?_
          refine vu_i hP (vu_V S hF hP (h := 1) (hlt _ (by decide)) rfl (by decide) rfl (c_X0_lines l P hA hn w) ok_X0_lines ml_X0_54 ⟨Nat.le_of_ble_eq_true rfl, Nat.le_of_ble_eq_true rfl⟩ rfl hl.1 rfl (Nat.le_of_ble_eq_true rfl) dX0_lineByVowels_14 ⟨Nat.le_of_ble_eq_true rfl, Nat.le_of_ble_eq_true rfl⟩) (fun H locs ho1 hP => ?_)
          refine lv_icmp_ge (tgt := 47) hx hb dX0_lineByVowels_17 (by decide) (fun c4 => ?_) (fun c4 => ?_)
          · rw [if_pos c4] at h
            exact hB47 _ _ h _ _ _ hP (lv_sub hl [0, 1, 2, 3] rfl)
          · rw [if_neg c4] at h
            refine lv_aload_n hx hb dX0_lineByVowels_20 rfl (lv_at hl 0 rfl) ?_
            refine lv_iload hx hb dX0_lineByVowels_21 (lv_at hl 4 rfl) ?_
            obtain ⟨q2, hq2, h⟩ := ob h
            refine vu_i hP (vu_V S hF hP (h := 1) (hlt _ (by decide)) rfl (by decide) rfl (c_X0_vowelsOn l P hA hn w x4 hq2) ok_X0_vowelsOn ml_X0_159 ⟨Nat.le_of_ble_eq_true rfl, Nat.le_of_ble_eq_true rfl⟩ rfl hl.1 rfl (Nat.le_of_ble_eq_true rfl) dX0_lineByVowels_23 ⟨Nat.le_of_ble_eq_true rfl, Nat.le_of_ble_eq_true rfl⟩) (fun H locs ho3 hP => ?_)
            refine lv_iload_n hx hb dX0_lineByVowels_26 rfl (lv_at hl 3 rfl) ?_
            refine lv_icmp_ne (tgt := 41) hx hb dX0_lineByVowels_27 (by decide) (fun c5 => ?_) (fun c5 => ?_)
            · rw [if_neg c5] at h
              exact hB41 _ _ h _ _ _ hP (lv_sub hl [0, 1, 2, 3, 4] rfl)
            · rw [if_pos c5] at h
              refine lv_iload_n hx hb dX0_lineByVowels_30 rfl (lv_at hl 2 rfl) ?_
              refine lv_iload_n hx hb dX0_lineByVowels_31 rfl (lv_at hl 1 rfl) ?_
              refine lv_icmp_ne (tgt := 38) hx hb dX0_lineByVowels_32 (by decide) (fun c6 => ?_) (fun c6 => ?_)
              · rw [if_neg c6] at h
                refine lv_iinc (v := (x2 + 1)) (lv' := [(2, .int (x2 + 1)), (0, .ref (P.2.1 1)), (1, .int x1), (3, .int x3), (4, .int x4)]) hx hb dX0_lineByVowels_38 hl (k := 2) rfl rfl (by decide) rfl (fun ls hl => ?_)
                exact hB41 _ _ h _ _ _ hP (lv_sub hl [1, 2, 0, 3, 4] rfl)
              · rw [if_pos c6] at h
                refine lv_iload hx hb dX0_lineByVowels_35 (lv_at hl 4 rfl) ?_
                obtain rfl := Option.some.inj h
                exact ve_i (v := x4) S hF hP hr hk rfl dX0_lineByVowels_37
      unfold B_X0_lineByVowels_4 at h
      refine lv_iload_n hx hb dX0_lineByVowels_4 rfl (lv_at hl 3 rfl) ?_
      refine lv_if_lt (tgt := 53) hx hb dX0_lineByVowels_5 (by decide) (fun c7 => ?_) (fun c7 => ?_)
      · rw [if_pos c7] at h
        refine lv_iconst (v := (-1)) hx hb dX0_lineByVowels_53 (by decide) ?_
        obtain rfl := Option.some.inj h
        exact ve_i (v := (-1)) S hF hP hr hk rfl dX0_lineByVowels_54
      · rw [if_neg c7] at h
        refine lv_iconst (v := 0) hx hb dX0_lineByVowels_8 (by decide) ?_
        refine lv_istore (lv' := [(4, .int 0), (0, .ref (P.2.1 1)), (1, .int x1), (2, .int x2), (3, .int x3)]) hx hb dX0_lineByVowels_9 hl (by decide) rfl (fun ls hl => ?_)
        exact hL11 _ fu _ _ h _ _ _ hP (lv_sub hl [1, 2, 3, 4, 0] rfl)
  unfold F_X0_lineByVowels at h
  refine lv_iconst (v := 0) hx hb dX0_lineByVowels_0 (by decide) ?_
  refine lv_istore_n (lv' := [(2, .int 0), (0, .ref (P.2.1 1)), (1, .int x1)]) hx hb dX0_lineByVowels_1 rfl hl (by decide) rfl (fun ls hl => ?_)
  refine lv_iconst (v := 3) hx hb dX0_lineByVowels_2 (by decide) ?_
  refine lv_istore_n (lv' := [(3, .int 3), (2, .int 0), (0, .ref (P.2.1 1)), (1, .int x1)]) hx hb dX0_lineByVowels_3 rfl hl (by decide) rfl (fun ls hl => ?_)
  exact hL4 _ fu _ _ h _ _ _ hP (lv_sub hl [2, 3, 1, 0] rfl)
set_option maxRecDepth 100000 in
set_option maxHeartbeats 4000000 in
theorem c_X5_ranked (l : Launch) (P : Pl) (hA : Adr P) (hn : 26 ≤ P.2.2.2.1) (hst : l.stackTraces = false) (w : Wo) (x1 : Int32) {r : (Nat × Wo) ⊕ (Int32 × Wo)} (h : F_X5_ranked w x1 = some r) : CxI l P yX5_ranked cX5_ranked 3 (some .int) 6 1 [.ref (P.2.1 0), .int x1] w r := by
  have hlt : ∀ h, h < 26 → h < P.2.2.2.1 := fun h q => Nat.lt_of_lt_of_le q hn
  refine vs_vx hA (by decide +kernel) (Nat.le_of_ble_eq_true rfl) (fun p e s m args below meth c ls S hF hP hl hr hk hxt => ?_)
  have hx := S.1
  have hb := S.2.1
  replace hl : lv_has ls 3 [(0, .ref (P.2.1 0)), (1, .int x1)] := hl
  unfold F_X5_ranked at h
  refine lv_aload_n hx hb dX5_ranked_0 rfl (lv_at hl 0 rfl) ?_
  refine vt_getR (r := 1) S hF hP (k := 0) (ci := 5) 0 (hlt _ (by decide)) rfl (by decide) rfl (by decide) rfl rfl (inC_X5 _) (List.mem_cons_of_mem _ fl_X5_12) dX5_ranked_1 ?_
  refine lv_iload_n hx hb dX5_ranked_4 rfl (lv_at hl 1 rfl) ?_
  obtain ⟨q1, hq1, h⟩ := ob h
  refine vu_i hP (vu_V S hF hP (h := 1) (hlt _ (by decide)) rfl (by decide) rfl (c_X0_lineByVowels l P hA hn w x1 hq1) ok_X0_lineByVowels ml_X5_231 ⟨Nat.le_of_ble_eq_true rfl, Nat.le_of_ble_eq_true rfl⟩ rfl hl.1 rfl (Nat.le_of_ble_eq_true rfl) dX5_ranked_5 ⟨Nat.le_of_ble_eq_true rfl, Nat.le_of_ble_eq_true rfl⟩) (fun H locs ho2 hP => ?_)
  refine lv_istore_n (lv' := [(2, .int q1), (0, .ref (P.2.1 0)), (1, .int x1)]) hx hb dX5_ranked_8 rfl hl (by decide) rfl (fun ls hl => ?_)
  refine lv_iload_n hx hb dX5_ranked_9 rfl (lv_at hl 0 rfl) ?_
  refine lv_if_ge (tgt := 23) hx hb dX5_ranked_10 (by decide) (fun c3 => ?_) (fun c3 => ?_)
  · rw [if_pos c3] at h
    refine lv_iload_n hx hb dX5_ranked_23 rfl (lv_at hl 0 rfl) ?_
    obtain rfl := Option.some.inj h
    exact ve_xi (v := q1) S hF hP hr hk rfl (by decide) (by decide) dX5_ranked_24
  · rw [if_neg c3] at h
    obtain rfl := Option.some.inj h
    exact ve_thr4 hst S hF hP (is := 235) (text := "no such place in the order of lines") (by decide +kernel) hl.1 hk hxt dX5_ranked_13 dX5_ranked_16 dX5_ranked_17 dX5_ranked_19 dX5_ranked_22 ⟨Nat.le_of_ble_eq_true rfl, Nat.le_of_ble_eq_true rfl, Nat.le_of_ble_eq_true rfl, Nat.le_of_ble_eq_true rfl⟩ (by decide) (by decide)
set_option maxRecDepth 100000 in
set_option maxHeartbeats 4000000 in
theorem c_X3_clear (l : Launch) (P : Pl) (hA : Adr P) (hn : 26 ≤ P.2.2.2.1) (w : Wo) {r : Wo} (h : F_X3_clear w = some r) : CtV l P yX3_clear cX3_clear 1 none 0 [.ref (P.2.1 19)] w r := by
  have hlt : ∀ h, h < 26 → h < P.2.2.2.1 := fun h q => Nat.lt_of_lt_of_le q hn
  refine vs_met hA (by decide +kernel) (Nat.le_of_ble_eq_true rfl) (fun p e s m args below meth c ls S hF hP hl hr hk => ?_)
  have hx := S.1
  have hb := S.2.1
  replace hl : lv_has ls 1 [(0, .ref (P.2.1 19))] := hl
  unfold F_X3_clear at h
  refine lv_aload_n hx hb dX3_clear_0 rfl (lv_at hl 0 rfl) ?_
  refine lv_iconst (v := 0) hx hb dX3_clear_1 (by decide) ?_
  refine vt_putI S hF hP (k := 1) (ci := 3) 19 (hlt _ (by decide)) rfl (by decide) rfl (by decide) rfl tyX3 tyX3_ok nmX3 rfl rfl rfl rfl (by decide) (inC_X3 _) (List.mem_cons_of_mem _ fl_X3_15) dX3_clear_2 (fun H locs hP => ?_)
  obtain rfl := Option.some.inj h
  exact ve_v S hF hP hr hk dX3_clear_5
set_option maxRecDepth 100000 in
set_option maxHeartbeats 4000000 in
theorem c_X3_add (l : Launch) (P : Pl) (hA : Adr P) (hn : 26 ≤ P.2.2.2.1) (w : Wo) (x1 : Int32) {r : Wo} (h : F_X3_add w x1 = some r) : CtV l P yX3_add cX3_add 2 none 0 [.ref (P.2.1 19), .int x1] w r := by
  have hlt : ∀ h, h < 26 → h < P.2.2.2.1 := fun h q => Nat.lt_of_lt_of_le q hn
  refine vs_met hA (by decide +kernel) (Nat.le_of_ble_eq_true rfl) (fun p e s m args below meth c ls S hF hP hl hr hk => ?_)
  have hx := S.1
  have hb := S.2.1
  replace hl : lv_has ls 2 [(0, .ref (P.2.1 19)), (1, .int x1)] := hl
  have hB29 : ∀ (w : Wo), B_X3_add_29 w = some r → ∀ (H : Heap) (locs : List Loc) (ls : Array Slot), St P s w H locs → lv_has ls 2 [(0, .ref (P.2.1 19))] → W p l e (rmU 0 0 0) s m args below meth c H locs 0 0 (QV P r below args s) (F0 m 29 ls []) := by
    intro w h H locs ls hP hl
    unfold B_X3_add_29 at h
    refine lv_aload_n hx hb dX3_add_29 rfl (lv_at hl 0 rfl) ?_
    refine lv_dup hx hb dX3_add_30 rfl ?_
    refine vt_getI S hF hP (k := 1) (ci := 3) 19 (hlt _ (by decide)) rfl (by decide) rfl (by decide) rfl (inC_X3 _) (List.mem_cons_of_mem _ fl_X3_15) dX3_add_31 ?_
    refine lv_iconst (v := 1) hx hb dX3_add_34 (by decide) ?_
    refine lv_iadd hx hb dX3_add_35 ?_
    refine vt_putI S hF hP (k := 1) (ci := 3) 19 (hlt _ (by decide)) rfl (by decide) rfl (by decide) rfl tyX3 tyX3_ok nmX3 rfl rfl rfl rfl (by decide) (inC_X3 _) (List.mem_cons_of_mem _ fl_X3_15) dX3_add_36 (fun H locs hP => ?_)
    obtain rfl := Option.some.inj h
    exact ve_v S hF hP hr hk dX3_add_39
  unfold F_X3_add at h
  refine lv_aload_n hx hb dX3_add_0 rfl (lv_at hl 0 rfl) ?_
  refine vt_getI S hF hP (k := 1) (ci := 3) 19 (hlt _ (by decide)) rfl (by decide) rfl (by decide) rfl (inC_X3 _) (List.mem_cons_of_mem _ fl_X3_15) dX3_add_1 ?_
  refine lv_if_lt (tgt := 39) hx hb dX3_add_4 (by decide) (fun c1 => ?_) (fun c1 => ?_)
  · rw [if_pos c1] at h
    obtain rfl := Option.some.inj h
    exact ve_v S hF hP hr hk dX3_add_39
  · rw [if_neg c1] at h
    refine lv_aload_n hx hb dX3_add_7 rfl (lv_at hl 0 rfl) ?_
    refine vt_getI S hF hP (k := 1) (ci := 3) 19 (hlt _ (by decide)) rfl (by decide) rfl (by decide) rfl (inC_X3 _) (List.mem_cons_of_mem _ fl_X3_15) dX3_add_8 ?_
    refine lv_aload_n hx hb dX3_add_11 rfl (lv_at hl 0 rfl) ?_
    refine vt_getR (r := 20) S hF hP (k := 0) (ci := 3) 19 (hlt _ (by decide)) rfl (by decide) rfl (by decide) rfl rfl (inC_X3 _) (List.mem_cons_of_mem _ fl_X3_9) dX3_add_12 ?_
    refine vt_alen (v := 11) S hF hP (hlt _ (by decide)) rfl (by decide) rfl dX3_add_15 ?_
    refine lv_icmp_ge (tgt := 39) hx hb dX3_add_16 (by decide) (fun c2 => ?_) (fun c2 => ?_)
    · rw [if_pos c2] at h
      obtain rfl := Option.some.inj h
      exact ve_v S hF hP hr hk dX3_add_39
    · rw [if_neg c2] at h
      refine lv_aload_n hx hb dX3_add_19 rfl (lv_at hl 0 rfl) ?_
      refine vt_getR (r := 20) S hF hP (k := 0) (ci := 3) 19 (hlt _ (by decide)) rfl (by decide) rfl (by decide) rfl rfl (inC_X3 _) (List.mem_cons_of_mem _ fl_X3_9) dX3_add_20 ?_
      refine lv_aload_n hx hb dX3_add_23 rfl (lv_at hl 0 rfl) ?_
      refine vt_getI S hF hP (k := 1) (ci := 3) 19 (hlt _ (by decide)) rfl (by decide) rfl (by decide) rfl (inC_X3 _) (List.mem_cons_of_mem _ fl_X3_15) dX3_add_24 ?_
      refine lv_iload_n hx hb dX3_add_27 rfl (lv_at hl 1 rfl) ?_
      obtain ⟨c3, h⟩ := chk h
      refine vt_cast S hF hP (hlt _ (by decide)) rfl c3 dX3_add_28 (fun H locs hP => ?_)
      exact hB29 _ h _ _ _ hP (lv_sub hl [0] rfl)
set_option maxRecDepth 100000 in
set_option maxHeartbeats 4000000 in
theorem c_X5_writeAll (l : Launch) (P : Pl) (hA : Adr P) (hn : 26 ≤ P.2.2.2.1) (w : Wo) (x1 : Int64) {r : Int32 × Wo} (h : F_X5_writeAll w x1 = some r) : CtI l P yX5_writeAll cX5_writeAll 4 (some .int) 2 [.ref (P.2.1 0), .long x1] w r.1 r.2 := by
  have hlt : ∀ h, h < 26 → h < P.2.2.2.1 := fun h q => Nat.lt_of_lt_of_le q hn
  refine vs_met hA (by decide +kernel) (Nat.le_of_ble_eq_true rfl) (fun p e s m args below meth c ls S hF hP hl hr hk => ?_)
  have hx := S.1
  have hb := S.2.1
  replace hl : lv_has ls 4 [(0, .ref (P.2.1 0)), (1, .long x1)] := hl
  have hB65 : ∀ (w : Wo), B_X5_writeAll_65 w = some r → ∀ (H : Heap) (locs : List Loc) (ls : Array Slot), St P s w H locs → lv_has ls 4 [(0, .ref (P.2.1 0))] → W p l e (rmU 2 0 0) s m args below meth c H locs 0 0 (QI P (some .int) r.1 r.2 below args s) (F0 m 65 ls []) := by
    intro w h H locs ls hP hl
    unfold B_X5_writeAll_65 at h
    refine lv_aload_n hx hb dX5_writeAll_65 rfl (lv_at hl 0 rfl) ?_
    refine vt_getR (r := 19) S hF hP (k := 5) (ci := 5) 0 (hlt _ (by decide)) rfl (by decide) rfl (by decide) rfl rfl (inC_X5 _) (List.mem_cons_of_mem _ fl_X5_39) dX5_writeAll_66 ?_
    refine vt_getI S hF hP (k := 1) (ci := 3) 19 (hlt _ (by decide)) rfl (by decide) rfl (by decide) rfl (inC_X3 _) (List.mem_cons_of_mem _ fl_X5_253) dX5_writeAll_69 ?_
    obtain rfl := Option.some.inj h
    exact ve_i (v := (gI w 19 1)) S hF hP hr hk rfl dX5_writeAll_72
  have hL9 : ∀ (x1 : Int64) (n : Nat) (w : Wo) (x3 : Int32), jl2 (B_X5_writeAll_9 x1) n w x3 = some r → ∀ (H : Heap) (locs : List Loc) (ls : Array Slot), St P s w H locs → lv_has ls 4 [(0, .ref (P.2.1 0)), (1, .long x1), (3, .int x3)] → W p l e (rmU 2 0 0) s m args below meth c H locs 0 0 (QI P (some .int) r.1 r.2 below args s) (F0 m 9 ls []) := by
    intro x1
    intro n
    induction n with
    | zero =>
      intro w x3 h
      cases h
    | succ n ih9 =>
      intro w x3 h H locs ls hP hl
      replace h : B_X5_writeAll_9 x1 (jl2 (B_X5_writeAll_9 x1) n) w x3 = some r := h
      revert h ih9
      generalize jl2 (B_X5_writeAll_9 x1) n = k9
      intro ih9 h
      have hB44 : ∀ (w : Wo) (x3 : Int32), B_X5_writeAll_44 k9 w x1 x3 = some r → ∀ (H : Heap) (locs : List Loc) (ls : Array Slot), St P s w H locs → lv_has ls 4 [(0, .ref (P.2.1 0)), (1, .long x1), (3, .int x3)] → W p l e (rmU 2 0 0) s m args below meth c H locs 0 0 (QI P (some .int) r.1 r.2 below args s) (F0 m 44 ls []) := by
        intro w x3 h H locs ls hP hl
        unfold B_X5_writeAll_44 at h
        refine lv_aload_n hx hb dX5_writeAll_44 rfl (lv_at hl 0 rfl) ?_
        refine vt_getR (r := 19) S hF hP (k := 5) (ci := 5) 0 (hlt _ (by decide)) rfl (by decide) rfl (by decide) rfl rfl (inC_X5 _) (List.mem_cons_of_mem _ fl_X5_39) dX5_writeAll_45 ?_
        refine lv_lload_n hx hb dX5_writeAll_48 rfl (lv_at hl 1 rfl) ?_
        refine lv_iload_n hx hb dX5_writeAll_49 rfl (lv_at hl 2 rfl) ?_
        refine vu_i hP (vu_S S hF hP (c_X5_codeAt l P hA hn w x1 x3) ok_X5_codeAt ml_X5_91 ⟨Nat.le_of_ble_eq_true rfl, Nat.le_of_ble_eq_true rfl⟩ rfl hl.1 rfl (Nat.le_of_ble_eq_true rfl) dX5_writeAll_50 ⟨Nat.le_of_ble_eq_true rfl, Nat.le_of_ble_eq_true rfl⟩) (fun H locs ho3 hP => ?_)
        refine vu_i hP (vu_S S hF hP (c_X5_signOf l P hA hn w (F_X5_codeAt x1 x3)) ok_X5_signOf ml_X5_95 ⟨Nat.le_of_ble_eq_true rfl, Nat.le_of_ble_eq_true rfl⟩ rfl hl.1 rfl (Nat.le_of_ble_eq_true rfl) dX5_writeAll_53 ⟨Nat.le_of_ble_eq_true rfl, Nat.le_of_ble_eq_true rfl⟩) (fun H locs ho4 hP => ?_)
        obtain ⟨q5, hq5, h⟩ := ob h
        refine vu_v hP (vu_V S hF hP (h := 19) (hlt _ (by decide)) rfl (by decide) rfl (c_X3_add l P hA hn w (F_X5_signOf (F_X5_codeAt x1 x3)) hq5) ok_X3_add ml_X5_243 ⟨Nat.le_of_ble_eq_true rfl, Nat.le_of_ble_eq_true rfl⟩ rfl hl.1 rfl (Nat.le_of_ble_eq_true rfl) dX5_writeAll_56 ⟨Nat.le_of_ble_eq_true rfl, Nat.le_of_ble_eq_true rfl⟩) (fun H locs hP => ?_)
        refine lv_iinc (v := (x3 + 1)) (lv' := [(3, .int (x3 + 1)), (0, .ref (P.2.1 0)), (1, .long x1)]) hx hb dX5_writeAll_59 hl (k := 2) rfl rfl (by decide) rfl (fun ls hl => ?_)
        refine lv_goto (tgt := 9) hx hb dX5_writeAll_62 (by decide) ?_
        exact ih9 _ _ h _ _ _ hP (lv_sub hl [1, 2, 0] rfl)
      unfold B_X5_writeAll_9 at h
      refine lv_iload_n hx hb dX5_writeAll_9 rfl (lv_at hl 2 rfl) ?_
      refine lv_aload_n hx hb dX5_writeAll_10 rfl (lv_at hl 0 rfl) ?_
      refine vt_getR (r := 1) S hF hP (k := 0) (ci := 5) 0 (hlt _ (by decide)) rfl (by decide) rfl (by decide) rfl rfl (inC_X5 _) (List.mem_cons_of_mem _ fl_X5_12) dX5_writeAll_11 ?_
      refine vu_i hP (vu_V S hF hP (h := 1) (hlt _ (by decide)) rfl (by decide) rfl (c_X0_places l P hA hn w) ok_X0_places ml_X5_79 ⟨Nat.le_of_ble_eq_true rfl, Nat.le_of_ble_eq_true rfl⟩ rfl hl.1 rfl (Nat.le_of_ble_eq_true rfl) dX5_writeAll_14 ⟨Nat.le_of_ble_eq_true rfl, Nat.le_of_ble_eq_true rfl⟩) (fun H locs ho2 hP => ?_)
      refine lv_icmp_ge (tgt := 65) hx hb dX5_writeAll_17 (by decide) (fun c9 => ?_) (fun c9 => ?_)
      · rw [if_pos c9] at h
        exact hB65 _ h _ _ _ hP (lv_sub hl [0] rfl)
      · rw [if_neg c9] at h
        refine lv_iload_n hx hb dX5_writeAll_20 rfl (lv_at hl 2 rfl) ?_
        refine lv_if_le (tgt := 44) hx hb dX5_writeAll_21 (by decide) (fun c10 => ?_) (fun c10 => ?_)
        · rw [if_pos c10] at h
          exact hB44 _ _ h _ _ _ hP (lv_sub hl [0, 1, 2] rfl)
        · rw [if_neg c10] at h
          refine lv_aload_n hx hb dX5_writeAll_24 rfl (lv_at hl 0 rfl) ?_
          refine vt_getR (r := 1) S hF hP (k := 0) (ci := 5) 0 (hlt _ (by decide)) rfl (by decide) rfl (by decide) rfl rfl (inC_X5 _) (List.mem_cons_of_mem _ fl_X5_12) dX5_writeAll_25 ?_
          refine lv_iload_n hx hb dX5_writeAll_28 rfl (lv_at hl 2 rfl) ?_
          obtain ⟨q6, hq6, h⟩ := ob h
          refine vu_i hP (vu_V S hF hP (h := 1) (hlt _ (by decide)) rfl (by decide) rfl (c_X0_columnOf l P hA hn w x3 hq6) ok_X0_columnOf ml_X5_396 ⟨Nat.le_of_ble_eq_true rfl, Nat.le_of_ble_eq_true rfl⟩ rfl hl.1 rfl (Nat.le_of_ble_eq_true rfl) dX5_writeAll_29 ⟨Nat.le_of_ble_eq_true rfl, Nat.le_of_ble_eq_true rfl⟩) (fun H locs ho7 hP => ?_)
          refine lv_if_ne (tgt := 44) hx hb dX5_writeAll_32 (by decide) (fun c11 => ?_) (fun c11 => ?_)
          · rw [if_neg c11] at h
            exact hB44 _ _ h _ _ _ hP (lv_sub hl [0, 1, 2] rfl)
          · rw [if_pos c11] at h
            refine lv_aload_n hx hb dX5_writeAll_35 rfl (lv_at hl 0 rfl) ?_
            refine vt_getR (r := 19) S hF hP (k := 5) (ci := 5) 0 (hlt _ (by decide)) rfl (by decide) rfl (by decide) rfl rfl (inC_X5 _) (List.mem_cons_of_mem _ fl_X5_39) dX5_writeAll_36 ?_
            refine lv_bipush (v := 47) hx hb dX5_writeAll_39 (by decide) ?_
            obtain ⟨q8, hq8, h⟩ := ob h
            refine vu_v hP (vu_V S hF hP (h := 19) (hlt _ (by decide)) rfl (by decide) rfl (c_X3_add l P hA hn w 47 hq8) ok_X3_add ml_X5_243 ⟨Nat.le_of_ble_eq_true rfl, Nat.le_of_ble_eq_true rfl⟩ rfl hl.1 rfl (Nat.le_of_ble_eq_true rfl) dX5_writeAll_41 ⟨Nat.le_of_ble_eq_true rfl, Nat.le_of_ble_eq_true rfl⟩) (fun H locs hP => ?_)
            exact hB44 _ _ h _ _ _ hP (lv_sub hl [0, 1, 2] rfl)
  unfold F_X5_writeAll at h
  refine lv_aload_n hx hb dX5_writeAll_0 rfl (lv_at hl 0 rfl) ?_
  refine vt_getR (r := 19) S hF hP (k := 5) (ci := 5) 0 (hlt _ (by decide)) rfl (by decide) rfl (by decide) rfl rfl (inC_X5 _) (List.mem_cons_of_mem _ fl_X5_39) dX5_writeAll_1 ?_
  obtain ⟨q1, hq1, h⟩ := ob h
  refine vu_v hP (vu_V S hF hP (h := 19) (hlt _ (by decide)) rfl (by decide) rfl (c_X3_clear l P hA hn w hq1) ok_X3_clear ml_X5_240 ⟨Nat.le_of_ble_eq_true rfl, Nat.le_of_ble_eq_true rfl⟩ rfl hl.1 rfl (Nat.le_of_ble_eq_true rfl) dX5_writeAll_4 ⟨Nat.le_of_ble_eq_true rfl, Nat.le_of_ble_eq_true rfl⟩) (fun H locs hP => ?_)
  refine lv_iconst (v := 0) hx hb dX5_writeAll_7 (by decide) ?_
  refine lv_istore_n (lv' := [(3, .int 0), (0, .ref (P.2.1 0)), (1, .long x1)]) hx hb dX5_writeAll_8 rfl hl (by decide) rfl (fun ls hl => ?_)
  exact hL9 _ fu _ _ h _ _ _ hP (lv_sub hl [1, 2, 0] rfl)
set_option maxRecDepth 100000 in
set_option maxHeartbeats 4000000 in
theorem c_X5_text (l : Launch) (P : Pl) (hA : Adr P) (hn : 26 ≤ P.2.2.2.1) (w : Wo) {r : Int32 × Wo} (h : F_X5_text w = some r) : CtI l P yX5_text cX5_text 1 (some .int) 3 [.ref (P.2.1 0)] w r.1 r.2 := by
  have hlt : ∀ h, h < 26 → h < P.2.2.2.1 := fun h q => Nat.lt_of_lt_of_le q hn
  refine vs_met hA (by decide +kernel) (Nat.le_of_ble_eq_true rfl) (fun p e s m args below meth c ls S hF hP hl hr hk => ?_)
  have hx := S.1
  have hb := S.2.1
  replace hl : lv_has ls 1 [(0, .ref (P.2.1 0))] := hl
  unfold F_X5_text at h
  refine lv_aload_n hx hb dX5_text_0 rfl (lv_at hl 0 rfl) ?_
  refine lv_aload_n hx hb dX5_text_1 rfl (lv_at hl 0 rfl) ?_
  refine vt_getR (r := 1) S hF hP (k := 0) (ci := 5) 0 (hlt _ (by decide)) rfl (by decide) rfl (by decide) rfl rfl (inC_X5 _) (List.mem_cons_of_mem _ fl_X5_12) dX5_text_2 ?_
  refine vt_getL S hF hP (k := 2) (ci := 0) 1 (hlt _ (by decide)) rfl (by decide) rfl (by decide) rfl (inC_X0 _) (List.mem_cons_of_mem _ fl_X5_83) dX5_text_5 ?_
  obtain ⟨q1, hq1, h⟩ := ob h
  refine vu_i hP (vu_V S hF hP (h := 0) (hlt _ (by decide)) rfl (by decide) rfl (c_X5_writeAll l P hA hn w (gL w 1 2) hq1) ok_X5_writeAll ml_X5_237 ⟨Nat.le_of_ble_eq_true rfl, Nat.le_of_ble_eq_true rfl⟩ rfl hl.1 rfl (Nat.le_of_ble_eq_true rfl) dX5_text_8 ⟨Nat.le_of_ble_eq_true rfl, Nat.le_of_ble_eq_true rfl⟩) (fun H locs ho2 hP => ?_)
  obtain rfl := Option.some.inj h
  exact ve_i (v := q1.1) S hF hP hr hk rfl dX5_text_11
set_option maxRecDepth 100000 in
set_option maxHeartbeats 4000000 in
theorem c_X5_goalText (l : Launch) (P : Pl) (hA : Adr P) (hn : 26 ≤ P.2.2.2.1) (w : Wo) {r : Int32 × Wo} (h : F_X5_goalText w = some r) : CtI l P yX5_goalText cX5_goalText 1 (some .int) 3 [.ref (P.2.1 0)] w r.1 r.2 := by
  have hlt : ∀ h, h < 26 → h < P.2.2.2.1 := fun h q => Nat.lt_of_lt_of_le q hn
  refine vs_met hA (by decide +kernel) (Nat.le_of_ble_eq_true rfl) (fun p e s m args below meth c ls S hF hP hl hr hk => ?_)
  have hx := S.1
  have hb := S.2.1
  replace hl : lv_has ls 1 [(0, .ref (P.2.1 0))] := hl
  unfold F_X5_goalText at h
  refine lv_aload_n hx hb dX5_goalText_0 rfl (lv_at hl 0 rfl) ?_
  refine lv_aload_n hx hb dX5_goalText_1 rfl (lv_at hl 0 rfl) ?_
  refine vt_getR (r := 1) S hF hP (k := 0) (ci := 5) 0 (hlt _ (by decide)) rfl (by decide) rfl (by decide) rfl rfl (inC_X5 _) (List.mem_cons_of_mem _ fl_X5_12) dX5_goalText_2 ?_
  refine vt_getL S hF hP (k := 3) (ci := 0) 1 (hlt _ (by decide)) rfl (by decide) rfl (by decide) rfl (inC_X0 _) (List.mem_cons_of_mem _ fl_X5_99) dX5_goalText_5 ?_
  obtain ⟨q1, hq1, h⟩ := ob h
  refine vu_i hP (vu_V S hF hP (h := 0) (hlt _ (by decide)) rfl (by decide) rfl (c_X5_writeAll l P hA hn w (gL w 1 3) hq1) ok_X5_writeAll ml_X5_237 ⟨Nat.le_of_ble_eq_true rfl, Nat.le_of_ble_eq_true rfl⟩ rfl hl.1 rfl (Nat.le_of_ble_eq_true rfl) dX5_goalText_8 ⟨Nat.le_of_ble_eq_true rfl, Nat.le_of_ble_eq_true rfl⟩) (fun H locs ho2 hP => ?_)
  obtain rfl := Option.some.inj h
  exact ve_i (v := q1.1) S hF hP hr hk rfl dX5_goalText_11
set_option maxRecDepth 100000 in
set_option maxHeartbeats 4000000 in
theorem c_X5_lineText (l : Launch) (P : Pl) (hA : Adr P) (hn : 26 ≤ P.2.2.2.1) (hst : l.stackTraces = false) (w : Wo) (x1 : Int32) {r : (Nat × Wo) ⊕ (Int32 × Wo)} (h : F_X5_lineText w x1 = some r) : CxI l P yX5_lineText cX5_lineText 3 (some .int) 7 1 [.ref (P.2.1 0), .int x1] w r := by
  have hlt : ∀ h, h < 26 → h < P.2.2.2.1 := fun h q => Nat.lt_of_lt_of_le q hn
  refine vs_vx hA (by decide +kernel) (Nat.le_of_ble_eq_true rfl) (fun p e s m args below meth c ls S hF hP hl hr hk hxt => ?_)
  have hx := S.1
  have hb := S.2.1
  replace hl : lv_has ls 3 [(0, .ref (P.2.1 0)), (1, .int x1)] := hl
  have hB107 : ∀ (w : Wo), B_X5_lineText_107 w = some r → ∀ (H : Heap) (locs : List Loc) (ls : Array Slot), St P s w H locs → lv_has ls 3 [(0, .ref (P.2.1 0))] → W p l e (rmU 7 1 (6 * 1)) s m args below meth c H locs 1 6 (XI P 1 r below args s) (F0 m 107 ls []) := by
    intro w h H locs ls hP hl
    unfold B_X5_lineText_107 at h
    refine lv_aload_n hx hb dX5_lineText_107 rfl (lv_at hl 0 rfl) ?_
    refine vt_getR (r := 19) S hF hP (k := 5) (ci := 5) 0 (hlt _ (by decide)) rfl (by decide) rfl (by decide) rfl rfl (inC_X5 _) (List.mem_cons_of_mem _ fl_X5_39) dX5_lineText_108 ?_
    refine vt_getI S hF hP (k := 1) (ci := 3) 19 (hlt _ (by decide)) rfl (by decide) rfl (by decide) rfl (inC_X3 _) (List.mem_cons_of_mem _ fl_X5_253) dX5_lineText_111 ?_
    obtain rfl := Option.some.inj h
    exact ve_xi (v := (gI w 19 1)) S hF hP hr hk rfl (by decide) (by decide) dX5_lineText_114
  have hB87 : ∀ (w : Wo) (x1 : Int32), B_X5_lineText_87 w x1 = some r → ∀ (H : Heap) (locs : List Loc) (ls : Array Slot), St P s w H locs → lv_has ls 3 [(0, .ref (P.2.1 0)), (1, .int x1)] → W p l e (rmU 7 1 (6 * 1)) s m args below meth c H locs 1 6 (XI P 1 r below args s) (F0 m 87 ls []) := by
    intro w x1 h H locs ls hP hl
    unfold B_X5_lineText_87 at h
    refine lv_aload_n hx hb dX5_lineText_87 rfl (lv_at hl 0 rfl) ?_
    refine vt_getR (r := 1) S hF hP (k := 0) (ci := 5) 0 (hlt _ (by decide)) rfl (by decide) rfl (by decide) rfl rfl (inC_X5 _) (List.mem_cons_of_mem _ fl_X5_12) dX5_lineText_88 ?_
    refine lv_iload_n hx hb dX5_lineText_91 rfl (lv_at hl 1 rfl) ?_
    obtain ⟨q7, hq7, h⟩ := ob h
    refine vu_i hP (vu_V S hF hP (h := 1) (hlt _ (by decide)) rfl (by decide) rfl (c_X0_hasSong l P hA hn w x1 hq7) ok_X0_hasSong ml_X5_225 ⟨Nat.le_of_ble_eq_true rfl, Nat.le_of_ble_eq_true rfl⟩ rfl hl.1 rfl (Nat.le_of_ble_eq_true rfl) dX5_lineText_92 ⟨Nat.le_of_ble_eq_true rfl, Nat.le_of_ble_eq_true rfl⟩) (fun H locs ho8 hP => ?_)
    refine lv_if_eq (tgt := 107) hx hb dX5_lineText_95 (by decide) (fun c15 => ?_) (fun c15 => ?_)
    · rw [if_pos c15] at h
      exact hB107 _ h _ _ _ hP (lv_sub hl [0] rfl)
    · rw [if_neg c15] at h
      refine lv_aload_n hx hb dX5_lineText_98 rfl (lv_at hl 0 rfl) ?_
      refine vt_getR (r := 19) S hF hP (k := 5) (ci := 5) 0 (hlt _ (by decide)) rfl (by decide) rfl (by decide) rfl rfl (inC_X5 _) (List.mem_cons_of_mem _ fl_X5_39) dX5_lineText_99 ?_
      refine lv_bipush (v := 33) hx hb dX5_lineText_102 (by decide) ?_
      obtain ⟨q9, hq9, h⟩ := ob h
      refine vu_v hP (vu_V S hF hP (h := 19) (hlt _ (by decide)) rfl (by decide) rfl (c_X3_add l P hA hn w 33 hq9) ok_X3_add ml_X5_243 ⟨Nat.le_of_ble_eq_true rfl, Nat.le_of_ble_eq_true rfl⟩ rfl hl.1 rfl (Nat.le_of_ble_eq_true rfl) dX5_lineText_104 ⟨Nat.le_of_ble_eq_true rfl, Nat.le_of_ble_eq_true rfl⟩) (fun H locs hP => ?_)
      exact hB107 _ h _ _ _ hP (lv_sub hl [0] rfl)
  have hL40 : ∀ (x1 : Int32) (n : Nat) (w : Wo) (x2 : Int32), jl2 (B_X5_lineText_40 x1) n w x2 = some r → ∀ (H : Heap) (locs : List Loc) (ls : Array Slot), St P s w H locs → lv_has ls 3 [(0, .ref (P.2.1 0)), (1, .int x1), (2, .int x2)] → W p l e (rmU 7 1 (6 * 1)) s m args below meth c H locs 1 6 (XI P 1 r below args s) (F0 m 40 ls []) := by
    intro x1
    intro n
    induction n with
    | zero =>
      intro w x2 h
      cases h
    | succ n ih40 =>
      intro w x2 h H locs ls hP hl
      replace h : B_X5_lineText_40 x1 (jl2 (B_X5_lineText_40 x1) n) w x2 = some r := h
      revert h ih40
      generalize jl2 (B_X5_lineText_40 x1) n = k40
      intro ih40 h
      unfold B_X5_lineText_40 at h
      refine lv_iload_n hx hb dX5_lineText_40 rfl (lv_at hl 2 rfl) ?_
      refine lv_aload_n hx hb dX5_lineText_41 rfl (lv_at hl 0 rfl) ?_
      refine vt_getR (r := 1) S hF hP (k := 0) (ci := 5) 0 (hlt _ (by decide)) rfl (by decide) rfl (by decide) rfl rfl (inC_X5 _) (List.mem_cons_of_mem _ fl_X5_12) dX5_lineText_42 ?_
      refine lv_iload_n hx hb dX5_lineText_45 rfl (lv_at hl 1 rfl) ?_
      refine vu_i hP (vu_V S hF hP (h := 1) (hlt _ (by decide)) rfl (by decide) rfl (c_X0_lineLength l P hA hn w x1) ok_X0_lineLength ml_X5_247 ⟨Nat.le_of_ble_eq_true rfl, Nat.le_of_ble_eq_true rfl⟩ rfl hl.1 rfl (Nat.le_of_ble_eq_true rfl) dX5_lineText_46 ⟨Nat.le_of_ble_eq_true rfl, Nat.le_of_ble_eq_true rfl⟩) (fun H locs ho6 hP => ?_)
      refine lv_icmp_ge (tgt := 87) hx hb dX5_lineText_49 (by decide) (fun c16 => ?_) (fun c16 => ?_)
      · rw [if_pos c16] at h
        exact hB87 _ _ h _ _ _ hP (lv_sub hl [0, 1] rfl)
      · rw [if_neg c16] at h
        refine lv_aload_n hx hb dX5_lineText_52 rfl (lv_at hl 0 rfl) ?_
        refine vt_getR (r := 19) S hF hP (k := 5) (ci := 5) 0 (hlt _ (by decide)) rfl (by decide) rfl (by decide) rfl rfl (inC_X5 _) (List.mem_cons_of_mem _ fl_X5_39) dX5_lineText_53 ?_
        refine lv_aload_n hx hb dX5_lineText_56 rfl (lv_at hl 0 rfl) ?_
        refine vt_getR (r := 1) S hF hP (k := 0) (ci := 5) 0 (hlt _ (by decide)) rfl (by decide) rfl (by decide) rfl rfl (inC_X5 _) (List.mem_cons_of_mem _ fl_X5_12) dX5_lineText_57 ?_
        refine vt_getL S hF hP (k := 2) (ci := 0) 1 (hlt _ (by decide)) rfl (by decide) rfl (by decide) rfl (inC_X0 _) (List.mem_cons_of_mem _ fl_X5_83) dX5_lineText_60 ?_
        refine lv_aload_n hx hb dX5_lineText_63 rfl (lv_at hl 0 rfl) ?_
        refine vt_getR (r := 1) S hF hP (k := 0) (ci := 5) 0 (hlt _ (by decide)) rfl (by decide) rfl (by decide) rfl rfl (inC_X5 _) (List.mem_cons_of_mem _ fl_X5_12) dX5_lineText_64 ?_
        refine lv_iload_n hx hb dX5_lineText_67 rfl (lv_at hl 1 rfl) ?_
        refine lv_iload_n hx hb dX5_lineText_68 rfl (lv_at hl 2 rfl) ?_
        refine vu_i hP (vu_V S hF hP (h := 1) (hlt _ (by decide)) rfl (by decide) rfl (c_X0_placeOn l P hA hn w x1 x2) ok_X0_placeOn ml_X5_250 ⟨Nat.le_of_ble_eq_true rfl, Nat.le_of_ble_eq_true rfl⟩ rfl hl.1 rfl (Nat.le_of_ble_eq_true rfl) dX5_lineText_69 ⟨Nat.le_of_ble_eq_true rfl, Nat.le_of_ble_eq_true rfl⟩) (fun H locs ho10 hP => ?_)
        refine vu_i hP (vu_S S hF hP (c_X5_codeAt l P hA hn w (gL w 1 2) (F_X0_placeOn w x1 x2)) ok_X5_codeAt ml_X5_91 ⟨Nat.le_of_ble_eq_true rfl, Nat.le_of_ble_eq_true rfl⟩ rfl hl.1 rfl (Nat.le_of_ble_eq_true rfl) dX5_lineText_72 ⟨Nat.le_of_ble_eq_true rfl, Nat.le_of_ble_eq_true rfl⟩) (fun H locs ho11 hP => ?_)
        refine vu_i hP (vu_S S hF hP (c_X5_signOf l P hA hn w (F_X5_codeAt (gL w 1 2) (F_X0_placeOn w x1 x2))) ok_X5_signOf ml_X5_95 ⟨Nat.le_of_ble_eq_true rfl, Nat.le_of_ble_eq_true rfl⟩ rfl hl.1 rfl (Nat.le_of_ble_eq_true rfl) dX5_lineText_75 ⟨Nat.le_of_ble_eq_true rfl, Nat.le_of_ble_eq_true rfl⟩) (fun H locs ho12 hP => ?_)
        obtain ⟨q13, hq13, h⟩ := ob h
        refine vu_v hP (vu_V S hF hP (h := 19) (hlt _ (by decide)) rfl (by decide) rfl (c_X3_add l P hA hn w (F_X5_signOf (F_X5_codeAt (gL w 1 2) (F_X0_placeOn w x1 x2))) hq13) ok_X3_add ml_X5_243 ⟨Nat.le_of_ble_eq_true rfl, Nat.le_of_ble_eq_true rfl⟩ rfl hl.1 rfl (Nat.le_of_ble_eq_true rfl) dX5_lineText_78 ⟨Nat.le_of_ble_eq_true rfl, Nat.le_of_ble_eq_true rfl⟩) (fun H locs hP => ?_)
        refine lv_iinc (v := (x2 + 1)) (lv' := [(2, .int (x2 + 1)), (0, .ref (P.2.1 0)), (1, .int x1)]) hx hb dX5_lineText_81 hl (k := 2) rfl rfl (by decide) rfl (fun ls hl => ?_)
        refine lv_goto (tgt := 40) hx hb dX5_lineText_84 (by decide) ?_
        exact ih40 _ _ h _ _ _ hP (lv_sub hl [1, 2, 0] rfl)
  have hB38 : ∀ (w : Wo) (x1 : Int32), B_X5_lineText_38 w x1 = some r → ∀ (H : Heap) (locs : List Loc) (ls : Array Slot), St P s w H locs → lv_has ls 3 [(0, .ref (P.2.1 0)), (1, .int x1)] → W p l e (rmU 7 1 (6 * 1)) s m args below meth c H locs 1 6 (XI P 1 r below args s) (F0 m 38 ls []) := by
    intro w x1 h H locs ls hP hl
    unfold B_X5_lineText_38 at h
    refine lv_iconst (v := 0) hx hb dX5_lineText_38 (by decide) ?_
    refine lv_istore_n (lv' := [(2, .int 0), (0, .ref (P.2.1 0)), (1, .int x1)]) hx hb dX5_lineText_39 rfl hl (by decide) rfl (fun ls hl => ?_)
    exact hL40 _ fu _ _ h _ _ _ hP (lv_sub hl [1, 2, 0] rfl)
  unfold F_X5_lineText at h
  refine lv_aload_n hx hb dX5_lineText_0 rfl (lv_at hl 0 rfl) ?_
  refine vt_getR (r := 1) S hF hP (k := 0) (ci := 5) 0 (hlt _ (by decide)) rfl (by decide) rfl (by decide) rfl rfl (inC_X5 _) (List.mem_cons_of_mem _ fl_X5_12) dX5_lineText_1 ?_
  refine lv_iload_n hx hb dX5_lineText_4 rfl (lv_at hl 1 rfl) ?_
  refine vu_i hP (vu_V S hF hP (h := 1) (hlt _ (by decide)) rfl (by decide) rfl (c_X0_hasLine l P hA hn w x1) ok_X0_hasLine ml_X5_150 ⟨Nat.le_of_ble_eq_true rfl, Nat.le_of_ble_eq_true rfl⟩ rfl hl.1 rfl (Nat.le_of_ble_eq_true rfl) dX5_lineText_5 ⟨Nat.le_of_ble_eq_true rfl, Nat.le_of_ble_eq_true rfl⟩) (fun H locs ho1 hP => ?_)
  obtain ⟨q2, hq2, h⟩ := ob h
  refine vu_xv hP (vu_SX S hF hP (c_X5_needIndex l P hA hn hst w (F_X0_hasLine w x1) hq2) ok_X5_needIndex ml_X5_146 ⟨Nat.le_of_ble_eq_true rfl, Nat.le_of_ble_eq_true rfl⟩ rfl hl.1 rfl (Nat.le_of_ble_eq_true rfl) dX5_lineText_8 ⟨Nat.le_of_ble_eq_true rfl, Nat.le_of_ble_eq_true rfl⟩) (fun H locs u ce q9 ho hP e1 e2 e3 => ?_) (fun H locs uv3 ho hP => ?_)
  · subst ho
    obtain rfl := Option.some.inj h
    exact ve_out hF hP hk hxt e1 e2 e3 (by decide) (by decide)
  · subst ho
    rw [Sum.elim_inr] at h
    refine lv_aload_n hx hb dX5_lineText_11 rfl (lv_at hl 0 rfl) ?_
    refine vt_getR (r := 19) S hF hP (k := 5) (ci := 5) 0 (hlt _ (by decide)) rfl (by decide) rfl (by decide) rfl rfl (inC_X5 _) (List.mem_cons_of_mem _ fl_X5_39) dX5_lineText_12 ?_
    obtain ⟨q4, hq4, h⟩ := ob h
    refine vu_v hP (vu_V S hF hP (h := 19) (hlt _ (by decide)) rfl (by decide) rfl (c_X3_clear l P hA hn uv3 hq4) ok_X3_clear ml_X5_240 ⟨Nat.le_of_ble_eq_true rfl, Nat.le_of_ble_eq_true rfl⟩ rfl hl.1 rfl (Nat.le_of_ble_eq_true rfl) dX5_lineText_15 ⟨Nat.le_of_ble_eq_true rfl, Nat.le_of_ble_eq_true rfl⟩) (fun H locs hP => ?_)
    refine lv_aload_n hx hb dX5_lineText_18 rfl (lv_at hl 0 rfl) ?_
    refine vt_getR (r := 1) S hF hP (k := 0) (ci := 5) 0 (hlt _ (by decide)) rfl (by decide) rfl (by decide) rfl rfl (inC_X5 _) (List.mem_cons_of_mem _ fl_X5_12) dX5_lineText_19 ?_
    refine lv_iload_n hx hb dX5_lineText_22 rfl (lv_at hl 1 rfl) ?_
    refine vu_i hP (vu_V S hF hP (h := 1) (hlt _ (by decide)) rfl (by decide) rfl (c_X0_hasBar l P hA hn q4 x1) ok_X0_hasBar ml_X5_106 ⟨Nat.le_of_ble_eq_true rfl, Nat.le_of_ble_eq_true rfl⟩ rfl hl.1 rfl (Nat.le_of_ble_eq_true rfl) dX5_lineText_23 ⟨Nat.le_of_ble_eq_true rfl, Nat.le_of_ble_eq_true rfl⟩) (fun H locs ho5 hP => ?_)
    refine lv_if_eq (tgt := 38) hx hb dX5_lineText_26 (by decide) (fun c17 => ?_) (fun c17 => ?_)
    · rw [if_pos c17] at h
      exact hB38 _ _ h _ _ _ hP (lv_sub hl [0, 1] rfl)
    · rw [if_neg c17] at h
      refine lv_aload_n hx hb dX5_lineText_29 rfl (lv_at hl 0 rfl) ?_
      refine vt_getR (r := 19) S hF hP (k := 5) (ci := 5) 0 (hlt _ (by decide)) rfl (by decide) rfl (by decide) rfl rfl (inC_X5 _) (List.mem_cons_of_mem _ fl_X5_39) dX5_lineText_30 ?_
      refine lv_bipush (v := 35) hx hb dX5_lineText_33 (by decide) ?_
      obtain ⟨q14, hq14, h⟩ := ob h
      refine vu_v hP (vu_V S hF hP (h := 19) (hlt _ (by decide)) rfl (by decide) rfl (c_X3_add l P hA hn q4 35 hq14) ok_X3_add ml_X5_243 ⟨Nat.le_of_ble_eq_true rfl, Nat.le_of_ble_eq_true rfl⟩ rfl hl.1 rfl (Nat.le_of_ble_eq_true rfl) dX5_lineText_35 ⟨Nat.le_of_ble_eq_true rfl, Nat.le_of_ble_eq_true rfl⟩) (fun H locs hP => ?_)
      exact hB38 _ _ h _ _ _ hP (lv_sub hl [0, 1] rfl)
set_option maxRecDepth 100000 in
set_option maxHeartbeats 4000000 in
theorem c_X3_signAt (l : Launch) (P : Pl) (hA : Adr P) (hn : 26 ≤ P.2.2.2.1) (w : Wo) (x1 : Int32) {r : Int32} (h : F_X3_signAt w x1 = some r) : CtI l P yX3_signAt cX3_signAt 2 (some .char) 0 [.ref (P.2.1 19), .int x1] w r w := by
  have hlt : ∀ h, h < 26 → h < P.2.2.2.1 := fun h q => Nat.lt_of_lt_of_le q hn
  refine vs_met hA (by decide +kernel) (Nat.le_of_ble_eq_true rfl) (fun p e s m args below meth c ls S hF hP hl hr hk => ?_)
  have hx := S.1
  have hb := S.2.1
  replace hl : lv_has ls 2 [(0, .ref (P.2.1 19)), (1, .int x1)] := hl
  unfold F_X3_signAt at h
  refine lv_iload_n hx hb dX3_signAt_0 rfl (lv_at hl 1 rfl) ?_
  refine lv_if_lt (tgt := 22) hx hb dX3_signAt_1 (by decide) (fun c1 => ?_) (fun c1 => ?_)
  · rw [if_pos c1] at h
    refine lv_bipush (v := 32) hx hb dX3_signAt_22 (by decide) ?_
    obtain rfl := Option.some.inj h
    exact ve_i (v := 32) S hF hP hr hk rfl dX3_signAt_24
  · rw [if_neg c1] at h
    refine lv_iload_n hx hb dX3_signAt_4 rfl (lv_at hl 1 rfl) ?_
    refine lv_aload_n hx hb dX3_signAt_5 rfl (lv_at hl 0 rfl) ?_
    refine vt_getR (r := 20) S hF hP (k := 0) (ci := 3) 19 (hlt _ (by decide)) rfl (by decide) rfl (by decide) rfl rfl (inC_X3 _) (List.mem_cons_of_mem _ fl_X3_9) dX3_signAt_6 ?_
    refine vt_alen (v := 11) S hF hP (hlt _ (by decide)) rfl (by decide) rfl dX3_signAt_9 ?_
    refine lv_icmp_ge (tgt := 22) hx hb dX3_signAt_10 (by decide) (fun c2 => ?_) (fun c2 => ?_)
    · rw [if_pos c2] at h
      refine lv_bipush (v := 32) hx hb dX3_signAt_22 (by decide) ?_
      obtain rfl := Option.some.inj h
      exact ve_i (v := 32) S hF hP hr hk rfl dX3_signAt_24
    · rw [if_neg c2] at h
      refine lv_aload_n hx hb dX3_signAt_13 rfl (lv_at hl 0 rfl) ?_
      refine vt_getR (r := 20) S hF hP (k := 0) (ci := 3) 19 (hlt _ (by decide)) rfl (by decide) rfl (by decide) rfl rfl (inC_X3 _) (List.mem_cons_of_mem _ fl_X3_9) dX3_signAt_14 ?_
      refine lv_iload_n hx hb dX3_signAt_17 rfl (lv_at hl 1 rfl) ?_
      obtain ⟨c3, h⟩ := chk h
      refine vt_cald S hF hP (hlt _ (by decide)) rfl c3 dX3_signAt_18 ?_
      refine lv_goto (tgt := 24) hx hb dX3_signAt_19 (by decide) ?_
      obtain ⟨c4, h⟩ := chk h
      obtain rfl := Option.some.inj h
      exact ve_i (v := (gI w 20 (Int32.toNatClampNeg x1))) S hF hP hr hk (nar_c c4) dX3_signAt_24
set_option maxRecDepth 100000 in
set_option maxHeartbeats 4000000 in
theorem c_X5_character (l : Launch) (P : Pl) (hA : Adr P) (hn : 26 ≤ P.2.2.2.1) (hst : l.stackTraces = false) (w : Wo) (x1 : Int32) {r : (Nat × Wo) ⊕ (Int32 × Wo)} (h : F_X5_character w x1 = some r) : CxI l P yX5_character cX5_character 2 (some .char) 7 1 [.ref (P.2.1 0), .int x1] w r := by
  have hlt : ∀ h, h < 26 → h < P.2.2.2.1 := fun h q => Nat.lt_of_lt_of_le q hn
  refine vs_vx hA (by decide +kernel) (Nat.le_of_ble_eq_true rfl) (fun p e s m args below meth c ls S hF hP hl hr hk hxt => ?_)
  have hx := S.1
  have hb := S.2.1
  replace hl : lv_has ls 2 [(0, .ref (P.2.1 0)), (1, .int x1)] := hl
  have hB20 : ∀ (w : Wo) (x1 : Int32) (t0 : Int32), B_X5_character_20 w x1 t0 = some r → ∀ (H : Heap) (locs : List Loc) (ls : Array Slot), St P s w H locs → lv_has ls 2 [(0, .ref (P.2.1 0)), (1, .int x1)] → W p l e (rmU 7 1 (6 * 1)) s m args below meth c H locs 0 0 (XI P 1 r below args s) (F0 m 20 ls [.int t0]) := by
    intro w x1 t0 h H locs ls hP hl
    unfold B_X5_character_20 at h
    obtain ⟨q1, hq1, h⟩ := ob h
    refine vu_xv hP (vu_SX S hF hP (c_X5_needIndex l P hA hn hst w t0 hq1) ok_X5_needIndex ml_X5_146 ⟨Nat.le_of_ble_eq_true rfl, Nat.le_of_ble_eq_true rfl⟩ rfl hl.1 rfl (Nat.le_of_ble_eq_true rfl) dX5_character_20 ⟨Nat.le_of_ble_eq_true rfl, Nat.le_of_ble_eq_true rfl⟩) (fun H locs u ce q9 ho hP e1 e2 e3 => ?_) (fun H locs uv2 ho hP => ?_)
    · subst ho
      obtain rfl := Option.some.inj h
      exact ve_out hF hP hk hxt e1 e2 e3 (by decide) (by decide)
    · subst ho
      rw [Sum.elim_inr] at h
      refine lv_aload_n hx hb dX5_character_23 rfl (lv_at hl 0 rfl) ?_
      refine vt_getR (r := 19) S hF hP (k := 5) (ci := 5) 0 (hlt _ (by decide)) rfl (by decide) rfl (by decide) rfl rfl (inC_X5 _) (List.mem_cons_of_mem _ fl_X5_39) dX5_character_24 ?_
      refine lv_iload_n hx hb dX5_character_27 rfl (lv_at hl 1 rfl) ?_
      obtain ⟨q3, hq3, h⟩ := ob h
      refine vu_i hP (vu_V S hF hP (h := 19) (hlt _ (by decide)) rfl (by decide) rfl (c_X3_signAt l P hA hn uv2 x1 hq3) ok_X3_signAt ml_X5_256 ⟨Nat.le_of_ble_eq_true rfl, Nat.le_of_ble_eq_true rfl⟩ rfl hl.1 rfl (Nat.le_of_ble_eq_true rfl) dX5_character_28 ⟨Nat.le_of_ble_eq_true rfl, Nat.le_of_ble_eq_true rfl⟩) (fun H locs ho4 hP => ?_)
      obtain rfl := Option.some.inj h
      exact ve_xi (v := q3) S hF hP hr hk ho4 (by decide) (by decide) dX5_character_31
  have hB19 : ∀ (w : Wo) (x1 : Int32), B_X5_character_19 w x1 = some r → ∀ (H : Heap) (locs : List Loc) (ls : Array Slot), St P s w H locs → lv_has ls 2 [(0, .ref (P.2.1 0)), (1, .int x1)] → W p l e (rmU 7 1 (6 * 1)) s m args below meth c H locs 0 0 (XI P 1 r below args s) (F0 m 19 ls []) := by
    intro w x1 h H locs ls hP hl
    unfold B_X5_character_19 at h
    refine lv_iconst (v := 0) hx hb dX5_character_19 (by decide) ?_
    exact hB20 _ _ _ h _ _ _ hP (lv_sub hl [0, 1] rfl)
  unfold F_X5_character at h
  refine lv_iload_n hx hb dX5_character_0 rfl (lv_at hl 1 rfl) ?_
  refine lv_if_lt (tgt := 19) hx hb dX5_character_1 (by decide) (fun c5 => ?_) (fun c5 => ?_)
  · rw [if_pos c5] at h
    exact hB19 _ _ h _ _ _ hP (lv_sub hl [0, 1] rfl)
  · rw [if_neg c5] at h
    refine lv_iload_n hx hb dX5_character_4 rfl (lv_at hl 1 rfl) ?_
    refine lv_aload_n hx hb dX5_character_5 rfl (lv_at hl 0 rfl) ?_
    refine vt_getR (r := 19) S hF hP (k := 5) (ci := 5) 0 (hlt _ (by decide)) rfl (by decide) rfl (by decide) rfl rfl (inC_X5 _) (List.mem_cons_of_mem _ fl_X5_39) dX5_character_6 ?_
    refine vt_getI S hF hP (k := 1) (ci := 3) 19 (hlt _ (by decide)) rfl (by decide) rfl (by decide) rfl (inC_X3 _) (List.mem_cons_of_mem _ fl_X5_253) dX5_character_9 ?_
    refine lv_icmp_ge (tgt := 19) hx hb dX5_character_12 (by decide) (fun c6 => ?_) (fun c6 => ?_)
    · rw [if_pos c6] at h
      exact hB19 _ _ h _ _ _ hP (lv_sub hl [0, 1] rfl)
    · rw [if_neg c6] at h
      refine lv_iconst (v := 1) hx hb dX5_character_15 (by decide) ?_
      refine lv_goto (tgt := 20) hx hb dX5_character_16 (by decide) ?_
      exact hB20 _ _ _ h _ _ _ hP (lv_sub hl [0, 1] rfl)
set_option maxRecDepth 100000 in
set_option maxHeartbeats 4000000 in
theorem c_X5_append (l : Launch) (P : Pl) (hA : Adr P) (hn : 26 ≤ P.2.2.2.1) (hst : l.stackTraces = false) (w : Wo) (x1 : Int32) {r : (Nat × Wo) ⊕ (Int32 × Wo)} (h : F_X5_append w x1 = some r) : CxI l P yX5_append cX5_append 2 (some .int) 6 1 [.ref (P.2.1 0), .int x1] w r := by
  have hlt : ∀ h, h < 26 → h < P.2.2.2.1 := fun h q => Nat.lt_of_lt_of_le q hn
  refine vs_vx hA (by decide +kernel) (Nat.le_of_ble_eq_true rfl) (fun p e s m args below meth c ls S hF hP hl hr hk hxt => ?_)
  have hx := S.1
  have hb := S.2.1
  replace hl : lv_has ls 2 [(0, .ref (P.2.1 0)), (1, .int x1)] := hl
  have hB19 : ∀ (w : Wo), B_X5_append_19 w = some r → ∀ (H : Heap) (locs : List Loc) (ls : Array Slot), St P s w H locs → lv_has ls 2 [] → W p l e (rmU 6 1 (6 * 1)) s m args below meth c H locs 0 0 (XI P 1 r below args s) (F0 m 19 ls []) := by
    intro w h H locs ls hP hl
    unfold B_X5_append_19 at h
    obtain rfl := Option.some.inj h
    exact ve_thrW hst S hF hP (fun _ z => List.mem_cons_of_mem _ z) (is := 261) (text := "the input is full") rfl th_259_263.1 th_259_263.2.1 th_259_263.2.2.1 (by decide +kernel) th_259_263.2.2.2.1 th_259_263.2.2.2.2 hl.1 hk hxt dX5_append_19 dX5_append_22 dX5_append_23 dX5_append_26 dX5_append_29 ⟨Nat.le_of_ble_eq_true rfl, Nat.le_of_ble_eq_true rfl, Nat.le_of_ble_eq_true rfl, Nat.le_of_ble_eq_true rfl⟩ (by decide) (by decide)
  have hB50 : ∀ (w : Wo), B_X5_append_50 w = some r → ∀ (H : Heap) (locs : List Loc) (ls : Array Slot), St P s w H locs → lv_has ls 2 [(0, .ref (P.2.1 0))] → W p l e (rmU 6 1 (6 * 1)) s m args below meth c H locs 0 0 (XI P 1 r below args s) (F0 m 50 ls []) := by
    intro w h H locs ls hP hl
    unfold B_X5_append_50 at h
    refine lv_aload_n hx hb dX5_append_50 rfl (lv_at hl 0 rfl) ?_
    refine vt_getI S hF hP (k := 8) (ci := 5) 0 (hlt _ (by decide)) rfl (by decide) rfl (by decide) rfl (inC_X5 _) (List.mem_cons_of_mem _ fl_X5_54) dX5_append_51 ?_
    obtain rfl := Option.some.inj h
    exact ve_xi (v := (gI w 0 8)) S hF hP hr hk rfl (by decide) (by decide) dX5_append_54
  have hB40 : ∀ (w : Wo), B_X5_append_40 w = some r → ∀ (H : Heap) (locs : List Loc) (ls : Array Slot), St P s w H locs → lv_has ls 2 [(0, .ref (P.2.1 0))] → W p l e (rmU 6 1 (6 * 1)) s m args below meth c H locs 0 0 (XI P 1 r below args s) (F0 m 40 ls []) := by
    intro w h H locs ls hP hl
    unfold B_X5_append_40 at h
    refine lv_aload_n hx hb dX5_append_40 rfl (lv_at hl 0 rfl) ?_
    refine lv_dup hx hb dX5_append_41 rfl ?_
    refine vt_getI S hF hP (k := 8) (ci := 5) 0 (hlt _ (by decide)) rfl (by decide) rfl (by decide) rfl (inC_X5 _) (List.mem_cons_of_mem _ fl_X5_54) dX5_append_42 ?_
    refine lv_iconst (v := 1) hx hb dX5_append_45 (by decide) ?_
    refine lv_iadd hx hb dX5_append_46 ?_
    refine vt_putI S hF hP (k := 8) (ci := 5) 0 (hlt _ (by decide)) rfl (by decide) rfl (by decide) rfl tyX5 tyX5_ok nmX5 rfl rfl rfl rfl (by decide) (inC_X5 _) (List.mem_cons_of_mem _ fl_X5_54) dX5_append_47 (fun H locs hP => ?_)
    exact hB50 _ h _ _ _ hP (lv_sub hl [0] rfl)
  unfold F_X5_append at h
  refine lv_aload_n hx hb dX5_append_0 rfl (lv_at hl 0 rfl) ?_
  refine vt_getI S hF hP (k := 8) (ci := 5) 0 (hlt _ (by decide)) rfl (by decide) rfl (by decide) rfl (inC_X5 _) (List.mem_cons_of_mem _ fl_X5_54) dX5_append_1 ?_
  refine lv_if_lt (tgt := 19) hx hb dX5_append_4 (by decide) (fun c1 => ?_) (fun c1 => ?_)
  · rw [if_pos c1] at h
    exact hB19 _ h _ _ _ hP (lv_sub hl [] rfl)
  · rw [if_neg c1] at h
    refine lv_aload_n hx hb dX5_append_7 rfl (lv_at hl 0 rfl) ?_
    refine vt_getI S hF hP (k := 8) (ci := 5) 0 (hlt _ (by decide)) rfl (by decide) rfl (by decide) rfl (inC_X5 _) (List.mem_cons_of_mem _ fl_X5_54) dX5_append_8 ?_
    refine lv_aload_n hx hb dX5_append_11 rfl (lv_at hl 0 rfl) ?_
    refine vt_getR (r := 25) S hF hP (k := 7) (ci := 5) 0 (hlt _ (by decide)) rfl (by decide) rfl (by decide) rfl rfl (inC_X5 _) (List.mem_cons_of_mem _ fl_X5_50) dX5_append_12 ?_
    refine vt_alen (v := 60) S hF hP (hlt _ (by decide)) rfl (by decide) rfl dX5_append_15 ?_
    refine lv_icmp_lt (tgt := 30) hx hb dX5_append_16 (by decide) (fun c2 => ?_) (fun c2 => ?_)
    · rw [if_pos c2] at h
      refine lv_aload_n hx hb dX5_append_30 rfl (lv_at hl 0 rfl) ?_
      refine vt_getR (r := 25) S hF hP (k := 7) (ci := 5) 0 (hlt _ (by decide)) rfl (by decide) rfl (by decide) rfl rfl (inC_X5 _) (List.mem_cons_of_mem _ fl_X5_50) dX5_append_31 ?_
      refine lv_aload_n hx hb dX5_append_34 rfl (lv_at hl 0 rfl) ?_
      refine vt_getI S hF hP (k := 8) (ci := 5) 0 (hlt _ (by decide)) rfl (by decide) rfl (by decide) rfl (inC_X5 _) (List.mem_cons_of_mem _ fl_X5_54) dX5_append_35 ?_
      refine lv_iload_n hx hb dX5_append_38 rfl (lv_at hl 1 rfl) ?_
      obtain ⟨c3, h⟩ := chk h
      refine vt_cast S hF hP (hlt _ (by decide)) rfl c3 dX5_append_39 (fun H locs hP => ?_)
      exact hB40 _ h _ _ _ hP (lv_sub hl [0] rfl)
    · rw [if_neg c2] at h
      exact hB19 _ h _ _ _ hP (lv_sub hl [] rfl)
set_option maxRecDepth 100000 in
set_option maxHeartbeats 4000000 in
theorem c_X4_peek (l : Launch) (P : Pl) (hA : Adr P) (hn : 26 ≤ P.2.2.2.1) (w : Wo) {r : Int32} (h : F_X4_peek w = some r) : CtI l P yX4_peek cX4_peek 2 (some .char) 0 [.ref (P.2.1 21)] w r w := by
  have hlt : ∀ h, h < 26 → h < P.2.2.2.1 := fun h q => Nat.lt_of_lt_of_le q hn
  refine vs_met hA (by decide +kernel) (Nat.le_of_ble_eq_true rfl) (fun p e s m args below meth c ls S hF hP hl hr hk => ?_)
  have hx := S.1
  have hb := S.2.1
  replace hl : lv_has ls 2 [(0, .ref (P.2.1 21))] := hl
  have hB42 : ∀ (t0 : Int32), B_X4_peek_42 w t0 = some r → ∀ (H : Heap) (locs : List Loc) (ls : Array Slot), St P s w H locs → lv_has ls 2 [(0, .ref (P.2.1 21))] → W p l e (rmU 0 0 0) s m args below meth c H locs 0 0 (QI P (some .char) r w below args s) (F0 m 42 ls [.int t0]) := by
    intro t0 h H locs ls hP hl
    unfold B_X4_peek_42 at h
    refine lv_istore_n (lv' := [(1, .int t0), (0, .ref (P.2.1 21))]) hx hb dX4_peek_42 rfl hl (by decide) rfl (fun ls hl => ?_)
    refine lv_iload_n hx hb dX4_peek_43 rfl (lv_at hl 0 rfl) ?_
    refine lv_if_eq (tgt := 59) hx hb dX4_peek_44 (by decide) (fun c1 => ?_) (fun c1 => ?_)
    · rw [if_pos c1] at h
      refine lv_iconst (v := 0) hx hb dX4_peek_59 (by decide) ?_
      obtain rfl := Option.some.inj h
      exact ve_i (v := 0) S hF hP hr hk rfl dX4_peek_60
    · rw [if_neg c1] at h
      refine lv_aload_n hx hb dX4_peek_47 rfl (lv_at hl 1 rfl) ?_
      refine vt_getN (r := 25) S hF hP (k := 3) (ci := 4) 21 (hlt _ (by decide)) rfl (by decide) rfl (by decide) rfl rfl (inC_X4 _) (List.mem_cons_of_mem _ fl_X4_21) dX4_peek_48 (fun c2 => ?_) (fun c2 => ?_)
      · rw [if_pos c2] at h
        refine lv_aload_n hx hb dX4_peek_51 rfl (lv_at hl 1 rfl) ?_
        refine vt_getI S hF hP (k := 5) (ci := 4) 21 (hlt _ (by decide)) rfl (by decide) rfl (by decide) rfl (inC_X4 _) (List.mem_cons_of_mem _ fl_X4_29) dX4_peek_52 ?_
        cases h
      · rw [if_neg c2] at h
        refine lv_aload_n hx hb dX4_peek_51 rfl (lv_at hl 1 rfl) ?_
        refine vt_getI S hF hP (k := 5) (ci := 4) 21 (hlt _ (by decide)) rfl (by decide) rfl (by decide) rfl (inC_X4 _) (List.mem_cons_of_mem _ fl_X4_29) dX4_peek_52 ?_
        obtain ⟨c3, h⟩ := chk h
        refine vt_cald S hF hP (hlt _ (by decide)) rfl c3 dX4_peek_55 ?_
        refine lv_goto (tgt := 60) hx hb dX4_peek_56 (by decide) ?_
        obtain ⟨c4, h⟩ := chk h
        obtain rfl := Option.some.inj h
        exact ve_i (v := (gI w 25 (Int32.toNatClampNeg (gI w 21 5)))) S hF hP hr hk (nar_c c4) dX4_peek_60
  have hB41 : B_X4_peek_41 w = some r → ∀ (H : Heap) (locs : List Loc) (ls : Array Slot), St P s w H locs → lv_has ls 2 [(0, .ref (P.2.1 21))] → W p l e (rmU 0 0 0) s m args below meth c H locs 0 0 (QI P (some .char) r w below args s) (F0 m 41 ls []) := by
    intro h H locs ls hP hl
    unfold B_X4_peek_41 at h
    refine lv_iconst (v := 0) hx hb dX4_peek_41 (by decide) ?_
    exact hB42 _ h _ _ _ hP (lv_sub hl [0] rfl)
  unfold F_X4_peek at h
  refine lv_aload_n hx hb dX4_peek_0 rfl (lv_at hl 0 rfl) ?_
  refine vt_getN (r := 25) S hF hP (k := 3) (ci := 4) 21 (hlt _ (by decide)) rfl (by decide) rfl (by decide) rfl rfl (inC_X4 _) (List.mem_cons_of_mem _ fl_X4_21) dX4_peek_1 (fun c5 => ?_) (fun c5 => ?_)
  · rw [if_pos c5] at h
    refine lv_ifnullN (tgt := 41) hx hb dX4_peek_4 (by decide) ?_
    exact hB41 h _ _ _ hP (lv_sub hl [0] rfl)
  · rw [if_neg c5] at h
    refine lv_ifnull hx hb dX4_peek_4 ?_
    refine lv_aload_n hx hb dX4_peek_7 rfl (lv_at hl 0 rfl) ?_
    refine vt_getI S hF hP (k := 5) (ci := 4) 21 (hlt _ (by decide)) rfl (by decide) rfl (by decide) rfl (inC_X4 _) (List.mem_cons_of_mem _ fl_X4_29) dX4_peek_8 ?_
    refine lv_if_lt (tgt := 41) hx hb dX4_peek_11 (by decide) (fun c6 => ?_) (fun c6 => ?_)
    · rw [if_pos c6] at h
      exact hB41 h _ _ _ hP (lv_sub hl [0] rfl)
    · rw [if_neg c6] at h
      refine lv_aload_n hx hb dX4_peek_14 rfl (lv_at hl 0 rfl) ?_
      refine vt_getI S hF hP (k := 5) (ci := 4) 21 (hlt _ (by decide)) rfl (by decide) rfl (by decide) rfl (inC_X4 _) (List.mem_cons_of_mem _ fl_X4_29) dX4_peek_15 ?_
      refine lv_aload_n hx hb dX4_peek_18 rfl (lv_at hl 0 rfl) ?_
      refine vt_getI S hF hP (k := 4) (ci := 4) 21 (hlt _ (by decide)) rfl (by decide) rfl (by decide) rfl (inC_X4 _) (List.mem_cons_of_mem _ fl_X4_25) dX4_peek_19 ?_
      refine lv_icmp_ge (tgt := 41) hx hb dX4_peek_22 (by decide) (fun c7 => ?_) (fun c7 => ?_)
      · rw [if_pos c7] at h
        exact hB41 h _ _ _ hP (lv_sub hl [0] rfl)
      · rw [if_neg c7] at h
        refine lv_aload_n hx hb dX4_peek_25 rfl (lv_at hl 0 rfl) ?_
        refine vt_getI S hF hP (k := 5) (ci := 4) 21 (hlt _ (by decide)) rfl (by decide) rfl (by decide) rfl (inC_X4 _) (List.mem_cons_of_mem _ fl_X4_29) dX4_peek_26 ?_
        refine lv_aload_n hx hb dX4_peek_29 rfl (lv_at hl 0 rfl) ?_
        refine vt_getN (r := 25) S hF hP (k := 3) (ci := 4) 21 (hlt _ (by decide)) rfl (by decide) rfl (by decide) rfl rfl (inC_X4 _) (List.mem_cons_of_mem _ fl_X4_21) dX4_peek_30 (fun c8 => ?_) (fun c8 => ?_)
        · rw [if_pos c8] at h
          cases h
        · rw [if_neg c8] at h
          refine vt_alen (v := 60) S hF hP (hlt _ (by decide)) rfl (by decide) rfl dX4_peek_33 ?_
          refine lv_icmp_ge (tgt := 41) hx hb dX4_peek_34 (by decide) (fun c9 => ?_) (fun c9 => ?_)
          · rw [if_pos c9] at h
            exact hB41 h _ _ _ hP (lv_sub hl [0] rfl)
          · rw [if_neg c9] at h
            refine lv_iconst (v := 1) hx hb dX4_peek_37 (by decide) ?_
            refine lv_goto (tgt := 42) hx hb dX4_peek_38 (by decide) ?_
            exact hB42 _ h _ _ _ hP (lv_sub hl [0] rfl)
set_option maxRecDepth 100000 in
set_option maxHeartbeats 4000000 in
theorem c_X4_isKind (l : Launch) (P : Pl) (hA : Adr P) (hn : 26 ≤ P.2.2.2.1) (w : Wo) (x0 : Int32) : CtI l P yX4_isKind cX4_isKind 1 (some .boolean) 0 [.int x0] w (F_X4_isKind x0) w := by
  have hlt : ∀ h, h < 26 → h < P.2.2.2.1 := fun h q => Nat.lt_of_lt_of_le q hn
  obtain ⟨r, h⟩ : ∃ r, F_X4_isKind x0 = r := ⟨_, rfl⟩
  rw [h]
  refine vs_met hA (by decide +kernel) (Nat.le_of_ble_eq_true rfl) (fun p e s m args below meth c ls S hF hP hl hr hk => ?_)
  have hx := S.1
  have hb := S.2.1
  replace hl : lv_has ls 1 [(0, .int x0)] := hl
  have hB42 : B_X4_isKind_42 = r → ∀ (H : Heap) (locs : List Loc) (ls : Array Slot), St P s w H locs → lv_has ls 1 [] → W p l e (rmU 0 0 0) s m args below meth c H locs 0 0 (QI P (some .boolean) r w below args s) (F0 m 42 ls []) := by
    intro h H locs ls hP hl
    unfold B_X4_isKind_42 at h
    refine lv_iconst (v := 1) hx hb dX4_isKind_42 (by decide) ?_
    refine lv_goto (tgt := 47) hx hb dX4_isKind_43 (by decide) ?_
    subst h
    exact ve_i (v := 1) S hF hP hr hk rfl dX4_isKind_47
  unfold F_X4_isKind at h
  refine lv_iload_n hx hb dX4_isKind_0 rfl (lv_at hl 0 rfl) ?_
  refine lv_bipush (v := 98) hx hb dX4_isKind_1 (by decide) ?_
  refine lv_icmp_eq (tgt := 42) hx hb dX4_isKind_3 (by decide) (fun c1 => ?_) (fun c1 => ?_)
  · rw [if_pos c1] at h
    exact hB42 h _ _ _ hP (lv_sub hl [] rfl)
  · rw [if_neg c1] at h
    refine lv_iload_n hx hb dX4_isKind_6 rfl (lv_at hl 0 rfl) ?_
    refine lv_bipush (v := 112) hx hb dX4_isKind_7 (by decide) ?_
    refine lv_icmp_eq (tgt := 42) hx hb dX4_isKind_9 (by decide) (fun c2 => ?_) (fun c2 => ?_)
    · rw [if_pos c2] at h
      exact hB42 h _ _ _ hP (lv_sub hl [] rfl)
    · rw [if_neg c2] at h
      refine lv_iload_n hx hb dX4_isKind_12 rfl (lv_at hl 0 rfl) ?_
      refine lv_bipush (v := 103) hx hb dX4_isKind_13 (by decide) ?_
      refine lv_icmp_eq (tgt := 42) hx hb dX4_isKind_15 (by decide) (fun c3 => ?_) (fun c3 => ?_)
      · rw [if_pos c3] at h
        exact hB42 h _ _ _ hP (lv_sub hl [] rfl)
      · rw [if_neg c3] at h
        refine lv_iload_n hx hb dX4_isKind_18 rfl (lv_at hl 0 rfl) ?_
        refine lv_bipush (v := 116) hx hb dX4_isKind_19 (by decide) ?_
        refine lv_icmp_eq (tgt := 42) hx hb dX4_isKind_21 (by decide) (fun c4 => ?_) (fun c4 => ?_)
        · rw [if_pos c4] at h
          exact hB42 h _ _ _ hP (lv_sub hl [] rfl)
        · rw [if_neg c4] at h
          refine lv_iload_n hx hb dX4_isKind_24 rfl (lv_at hl 0 rfl) ?_
          refine lv_bipush (v := 115) hx hb dX4_isKind_25 (by decide) ?_
          refine lv_icmp_eq (tgt := 42) hx hb dX4_isKind_27 (by decide) (fun c5 => ?_) (fun c5 => ?_)
          · rw [if_pos c5] at h
            exact hB42 h _ _ _ hP (lv_sub hl [] rfl)
          · rw [if_neg c5] at h
            refine lv_iload_n hx hb dX4_isKind_30 rfl (lv_at hl 0 rfl) ?_
            refine lv_bipush (v := 120) hx hb dX4_isKind_31 (by decide) ?_
            refine lv_icmp_eq (tgt := 42) hx hb dX4_isKind_33 (by decide) (fun c6 => ?_) (fun c6 => ?_)
            · rw [if_pos c6] at h
              exact hB42 h _ _ _ hP (lv_sub hl [] rfl)
            · rw [if_neg c6] at h
              refine lv_iload_n hx hb dX4_isKind_36 rfl (lv_at hl 0 rfl) ?_
              refine lv_bipush (v := 114) hx hb dX4_isKind_37 (by decide) ?_
              refine lv_icmp_ne (tgt := 46) hx hb dX4_isKind_39 (by decide) (fun c7 => ?_) (fun c7 => ?_)
              · rw [if_neg c7] at h
                refine lv_iconst (v := 0) hx hb dX4_isKind_46 (by decide) ?_
                subst h
                exact ve_i (v := 0) S hF hP hr hk rfl dX4_isKind_47
              · rw [if_pos c7] at h
                exact hB42 h _ _ _ hP (lv_sub hl [] rfl)
set_option maxRecDepth 100000 in
set_option maxHeartbeats 4000000 in
theorem c_X4_takeDigit (l : Launch) (P : Pl) (hA : Adr P) (hn : 26 ≤ P.2.2.2.1) (w : Wo) {r : Int32 × Wo} (h : F_X4_takeDigit w = some r) : CtI l P yX4_takeDigit cX4_takeDigit 2 (some .int) 1 [.ref (P.2.1 21)] w r.1 r.2 := by
  have hlt : ∀ h, h < 26 → h < P.2.2.2.1 := fun h q => Nat.lt_of_lt_of_le q hn
  refine vs_met hA (by decide +kernel) (Nat.le_of_ble_eq_true rfl) (fun p e s m args below meth c ls S hF hP hl hr hk => ?_)
  have hx := S.1
  have hb := S.2.1
  replace hl : lv_has ls 2 [(0, .ref (P.2.1 21))] := hl
  have hB29 : ∀ (w : Wo) (x1 : Int32), B_X4_takeDigit_29 w x1 = some r → ∀ (H : Heap) (locs : List Loc) (ls : Array Slot), St P s w H locs → lv_has ls 2 [(1, .int x1)] → W p l e (rmU 1 0 0) s m args below meth c H locs 0 0 (QI P (some .int) r.1 r.2 below args s) (F0 m 29 ls []) := by
    intro w x1 h H locs ls hP hl
    unfold B_X4_takeDigit_29 at h
    refine lv_iload_n hx hb dX4_takeDigit_29 rfl (lv_at hl 0 rfl) ?_
    refine lv_bipush (v := 48) hx hb dX4_takeDigit_30 (by decide) ?_
    refine lv_isub hx hb dX4_takeDigit_32 ?_
    obtain rfl := Option.some.inj h
    exact ve_i (v := (x1 - (48 : Int32))) S hF hP hr hk rfl dX4_takeDigit_33
  unfold F_X4_takeDigit at h
  refine lv_aload_n hx hb dX4_takeDigit_0 rfl (lv_at hl 0 rfl) ?_
  obtain ⟨q1, hq1, h⟩ := ob h
  refine vu_i hP (vu_V S hF hP (h := 21) (hlt _ (by decide)) rfl (by decide) rfl (c_X4_peek l P hA hn w hq1) ok_X4_peek ml_X4_43 ⟨Nat.le_of_ble_eq_true rfl, Nat.le_of_ble_eq_true rfl⟩ rfl hl.1 rfl (Nat.le_of_ble_eq_true rfl) dX4_takeDigit_1 ⟨Nat.le_of_ble_eq_true rfl, Nat.le_of_ble_eq_true rfl⟩) (fun H locs ho2 hP => ?_)
  refine lv_istore_n (lv' := [(1, .int q1), (0, .ref (P.2.1 21))]) hx hb dX4_takeDigit_4 rfl hl (by decide) rfl (fun ls hl => ?_)
  refine lv_iload_n hx hb dX4_takeDigit_5 rfl (lv_at hl 0 rfl) ?_
  refine lv_bipush (v := 48) hx hb dX4_takeDigit_6 (by decide) ?_
  refine lv_icmp_lt (tgt := 17) hx hb dX4_takeDigit_8 (by decide) (fun c3 => ?_) (fun c3 => ?_)
  · rw [if_pos c3] at h
    refine lv_iconst (v := (-1)) hx hb dX4_takeDigit_17 (by decide) ?_
    obtain rfl := Option.some.inj h
    exact ve_i (v := (-1)) S hF hP hr hk rfl dX4_takeDigit_18
  · rw [if_neg c3] at h
    refine lv_iload_n hx hb dX4_takeDigit_11 rfl (lv_at hl 0 rfl) ?_
    refine lv_bipush (v := 57) hx hb dX4_takeDigit_12 (by decide) ?_
    refine lv_icmp_le (tgt := 19) hx hb dX4_takeDigit_14 (by decide) (fun c4 => ?_) (fun c4 => ?_)
    · rw [if_pos c4] at h
      refine lv_aload_n hx hb dX4_takeDigit_19 rfl (lv_at hl 1 rfl) ?_
      refine lv_dup hx hb dX4_takeDigit_20 rfl ?_
      refine vt_getI S hF hP (k := 5) (ci := 4) 21 (hlt _ (by decide)) rfl (by decide) rfl (by decide) rfl (inC_X4 _) (List.mem_cons_of_mem _ fl_X4_29) dX4_takeDigit_21 ?_
      refine lv_iconst (v := 1) hx hb dX4_takeDigit_24 (by decide) ?_
      refine lv_iadd hx hb dX4_takeDigit_25 ?_
      refine vt_putI S hF hP (k := 5) (ci := 4) 21 (hlt _ (by decide)) rfl (by decide) rfl (by decide) rfl tyX4 tyX4_ok nmX4 rfl rfl rfl rfl (by decide) (inC_X4 _) (List.mem_cons_of_mem _ fl_X4_29) dX4_takeDigit_26 (fun H locs hP => ?_)
      exact hB29 _ _ h _ _ _ hP (lv_sub hl [0] rfl)
    · rw [if_neg c4] at h
      refine lv_iconst (v := (-1)) hx hb dX4_takeDigit_17 (by decide) ?_
      obtain rfl := Option.some.inj h
      exact ve_i (v := (-1)) S hF hP hr hk rfl dX4_takeDigit_18
set_option maxRecDepth 100000 in
set_option maxHeartbeats 4000000 in
theorem c_X4_takeNumber (l : Launch) (P : Pl) (hA : Adr P) (hn : 26 ≤ P.2.2.2.1) (w : Wo) {r : Int32 × Wo} (h : F_X4_takeNumber w = some r) : CtI l P yX4_takeNumber cX4_takeNumber 4 (some .int) 2 [.ref (P.2.1 21)] w r.1 r.2 := by
  have hlt : ∀ h, h < 26 → h < P.2.2.2.1 := fun h q => Nat.lt_of_lt_of_le q hn
  refine vs_met hA (by decide +kernel) (Nat.le_of_ble_eq_true rfl) (fun p e s m args below meth c ls S hF hP hl hr hk => ?_)
  have hx := S.1
  have hb := S.2.1
  replace hl : lv_has ls 4 [(0, .ref (P.2.1 21))] := hl
  have hL9 : ∀ (n : Nat) (w : Wo) (x1 : Int32) (x2 : Int32) (x3 : Int32), jl4 (B_X4_takeNumber_9) n w x1 x2 x3 = some r → ∀ (H : Heap) (locs : List Loc) (ls : Array Slot), St P s w H locs → lv_has ls 4 [(0, .ref (P.2.1 21)), (1, .int x1), (2, .int x2), (3, .int x3)] → W p l e (rmU 2 0 0) s m args below meth c H locs 0 0 (QI P (some .int) r.1 r.2 below args s) (F0 m 9 ls []) := by
    intro n
    induction n with
    | zero =>
      intro w x1 x2 x3 h
      cases h
    | succ n ih9 =>
      intro w x1 x2 x3 h H locs ls hP hl
      replace h : B_X4_takeNumber_9 (jl4 (B_X4_takeNumber_9) n) w x1 x2 x3 = some r := h
      revert h ih9
      generalize jl4 (B_X4_takeNumber_9) n = k9
      intro ih9 h
      have hB34 : ∀ (w : Wo) (x1 : Int32) (x2 : Int32) (x3 : Int32), B_X4_takeNumber_34 k9 w x1 x2 x3 = some r → ∀ (H : Heap) (locs : List Loc) (ls : Array Slot), St P s w H locs → lv_has ls 4 [(0, .ref (P.2.1 21)), (1, .int x1), (2, .int x2), (3, .int x3)] → W p l e (rmU 2 0 0) s m args below meth c H locs 0 0 (QI P (some .int) r.1 r.2 below args s) (F0 m 34 ls []) := by
        intro w x1 x2 x3 h H locs ls hP hl
        unfold B_X4_takeNumber_34 at h
        refine lv_iinc (v := (x3 + 1)) (lv' := [(3, .int (x3 + 1)), (0, .ref (P.2.1 21)), (1, .int x1), (2, .int x2)]) hx hb dX4_takeNumber_34 hl (k := 3) rfl rfl (by decide) rfl (fun ls hl => ?_)
        refine lv_goto (tgt := 9) hx hb dX4_takeNumber_37 (by decide) ?_
        exact ih9 _ _ _ _ h _ _ _ hP (lv_sub hl [1, 2, 3, 0] rfl)
      unfold B_X4_takeNumber_9 at h
      refine lv_iload_n hx hb dX4_takeNumber_9 rfl (lv_at hl 3 rfl) ?_
      refine lv_iconst (v := 3) hx hb dX4_takeNumber_10 (by decide) ?_
      refine lv_icmp_ge (tgt := 40) hx hb dX4_takeNumber_11 (by decide) (fun c5 => ?_) (fun c5 => ?_)
      · rw [if_pos c5] at h
        refine lv_iload_n hx hb dX4_takeNumber_40 rfl (lv_at hl 1 rfl) ?_
        obtain rfl := Option.some.inj h
        exact ve_i (v := x1) S hF hP hr hk rfl dX4_takeNumber_41
      · rw [if_neg c5] at h
        refine lv_iload_n hx hb dX4_takeNumber_14 rfl (lv_at hl 2 rfl) ?_
        refine lv_if_lt (tgt := 40) hx hb dX4_takeNumber_15 (by decide) (fun c6 => ?_) (fun c6 => ?_)
        · rw [if_pos c6] at h
          refine lv_iload_n hx hb dX4_takeNumber_40 rfl (lv_at hl 1 rfl) ?_
          obtain rfl := Option.some.inj h
          exact ve_i (v := x1) S hF hP hr hk rfl dX4_takeNumber_41
        · rw [if_neg c6] at h
          refine lv_aload_n hx hb dX4_takeNumber_18 rfl (lv_at hl 0 rfl) ?_
          obtain ⟨q3, hq3, h⟩ := ob h
          refine vu_i hP (vu_V S hF hP (h := 21) (hlt _ (by decide)) rfl (by decide) rfl (c_X4_takeDigit l P hA hn w hq3) ok_X4_takeDigit ml_X4_55 ⟨Nat.le_of_ble_eq_true rfl, Nat.le_of_ble_eq_true rfl⟩ rfl hl.1 rfl (Nat.le_of_ble_eq_true rfl) dX4_takeNumber_19 ⟨Nat.le_of_ble_eq_true rfl, Nat.le_of_ble_eq_true rfl⟩) (fun H locs ho4 hP => ?_)
          refine lv_istore_n (lv' := [(2, .int q3.1), (0, .ref (P.2.1 21)), (1, .int x1), (3, .int x3)]) hx hb dX4_takeNumber_22 rfl hl (by decide) rfl (fun ls hl => ?_)
          refine lv_iload_n hx hb dX4_takeNumber_23 rfl (lv_at hl 0 rfl) ?_
          refine lv_if_lt (tgt := 34) hx hb dX4_takeNumber_24 (by decide) (fun c7 => ?_) (fun c7 => ?_)
          · rw [if_pos c7] at h
            exact hB34 _ _ _ _ h _ _ _ hP (lv_sub hl [1, 2, 0, 3] rfl)
          · rw [if_neg c7] at h
            refine lv_bipush (v := 10) hx hb dX4_takeNumber_27 (by decide) ?_
            refine lv_iload_n hx hb dX4_takeNumber_29 rfl (lv_at hl 2 rfl) ?_
            refine lv_imul hx hb dX4_takeNumber_30 ?_
            refine lv_iload_n hx hb dX4_takeNumber_31 rfl (lv_at hl 0 rfl) ?_
            refine lv_iadd hx hb dX4_takeNumber_32 ?_
            refine lv_istore_n (lv' := [(1, .int (((10 : Int32) * x1) + q3.1)), (2, .int q3.1), (0, .ref (P.2.1 21)), (3, .int x3)]) hx hb dX4_takeNumber_33 rfl hl (by decide) rfl (fun ls hl => ?_)
            exact hB34 _ _ _ _ h _ _ _ hP (lv_sub hl [2, 0, 1, 3] rfl)
  unfold F_X4_takeNumber at h
  refine lv_aload_n hx hb dX4_takeNumber_0 rfl (lv_at hl 0 rfl) ?_
  obtain ⟨q1, hq1, h⟩ := ob h
  refine vu_i hP (vu_V S hF hP (h := 21) (hlt _ (by decide)) rfl (by decide) rfl (c_X4_takeDigit l P hA hn w hq1) ok_X4_takeDigit ml_X4_55 ⟨Nat.le_of_ble_eq_true rfl, Nat.le_of_ble_eq_true rfl⟩ rfl hl.1 rfl (Nat.le_of_ble_eq_true rfl) dX4_takeNumber_1 ⟨Nat.le_of_ble_eq_true rfl, Nat.le_of_ble_eq_true rfl⟩) (fun H locs ho2 hP => ?_)
  refine lv_istore_n (lv' := [(1, .int q1.1), (0, .ref (P.2.1 21))]) hx hb dX4_takeNumber_4 rfl hl (by decide) rfl (fun ls hl => ?_)
  refine lv_iload_n hx hb dX4_takeNumber_5 rfl (lv_at hl 0 rfl) ?_
  refine lv_istore_n (lv' := [(2, .int q1.1), (1, .int q1.1), (0, .ref (P.2.1 21))]) hx hb dX4_takeNumber_6 rfl hl (by decide) rfl (fun ls hl => ?_)
  refine lv_iconst (v := 1) hx hb dX4_takeNumber_7 (by decide) ?_
  refine lv_istore_n (lv' := [(3, .int 1), (2, .int q1.1), (1, .int q1.1), (0, .ref (P.2.1 21))]) hx hb dX4_takeNumber_8 rfl hl (by decide) rfl (fun ls hl => ?_)
  exact hL9 fu _ _ _ _ h _ _ _ hP (lv_sub hl [3, 2, 1, 0] rfl)
set_option maxRecDepth 100000 in
set_option maxHeartbeats 4000000 in
theorem c_X4_take (l : Launch) (P : Pl) (hA : Adr P) (hn : 26 ≤ P.2.2.2.1) (w : Wo) (x1 : Int32) {r : Int32 × Wo} (h : F_X4_take w x1 = some r) : CtI l P yX4_take cX4_take 3 (some .boolean) 1 [.ref (P.2.1 21), .int x1] w r.1 r.2 := by
  have hlt : ∀ h, h < 26 → h < P.2.2.2.1 := fun h q => Nat.lt_of_lt_of_le q hn
  refine vs_met hA (by decide +kernel) (Nat.le_of_ble_eq_true rfl) (fun p e s m args below meth c ls S hF hP hl hr hk => ?_)
  have hx := S.1
  have hb := S.2.1
  replace hl : lv_has ls 3 [(0, .ref (P.2.1 21)), (1, .int x1)] := hl
  have hB28 : ∀ (w : Wo) (x2 : Int32), B_X4_take_28 w x2 = some r → ∀ (H : Heap) (locs : List Loc) (ls : Array Slot), St P s w H locs → lv_has ls 3 [(2, .int x2)] → W p l e (rmU 1 0 0) s m args below meth c H locs 0 0 (QI P (some .boolean) r.1 r.2 below args s) (F0 m 28 ls []) := by
    intro w x2 h H locs ls hP hl
    unfold B_X4_take_28 at h
    refine lv_iload_n hx hb dX4_take_28 rfl (lv_at hl 0 rfl) ?_
    obtain ⟨c3, h⟩ := chk h
    obtain rfl := Option.some.inj h
    exact ve_i (v := x2) S hF hP hr hk (nar_z c3) dX4_take_29
  have hB13 : ∀ (w : Wo) (t0 : Int32), B_X4_take_13 w t0 = some r → ∀ (H : Heap) (locs : List Loc) (ls : Array Slot), St P s w H locs → lv_has ls 3 [(0, .ref (P.2.1 21))] → W p l e (rmU 1 0 0) s m args below meth c H locs 0 0 (QI P (some .boolean) r.1 r.2 below args s) (F0 m 13 ls [.int t0]) := by
    intro w t0 h H locs ls hP hl
    unfold B_X4_take_13 at h
    refine lv_istore_n (lv' := [(2, .int t0), (0, .ref (P.2.1 21))]) hx hb dX4_take_13 rfl hl (by decide) rfl (fun ls hl => ?_)
    refine lv_iload_n hx hb dX4_take_14 rfl (lv_at hl 0 rfl) ?_
    refine lv_if_eq (tgt := 28) hx hb dX4_take_15 (by decide) (fun c4 => ?_) (fun c4 => ?_)
    · rw [if_pos c4] at h
      refine lv_iload_n hx hb dX4_take_28 rfl (lv_at hl 0 rfl) ?_
      obtain ⟨c5, h⟩ := chk h
      obtain rfl := Option.some.inj h
      exact ve_i (v := t0) S hF hP hr hk (nar_z c5) dX4_take_29
    · rw [if_neg c4] at h
      refine lv_aload_n hx hb dX4_take_18 rfl (lv_at hl 1 rfl) ?_
      refine lv_dup hx hb dX4_take_19 rfl ?_
      refine vt_getI S hF hP (k := 5) (ci := 4) 21 (hlt _ (by decide)) rfl (by decide) rfl (by decide) rfl (inC_X4 _) (List.mem_cons_of_mem _ fl_X4_29) dX4_take_20 ?_
      refine lv_iconst (v := 1) hx hb dX4_take_23 (by decide) ?_
      refine lv_iadd hx hb dX4_take_24 ?_
      refine vt_putI S hF hP (k := 5) (ci := 4) 21 (hlt _ (by decide)) rfl (by decide) rfl (by decide) rfl tyX4 tyX4_ok nmX4 rfl rfl rfl rfl (by decide) (inC_X4 _) (List.mem_cons_of_mem _ fl_X4_29) dX4_take_25 (fun H locs hP => ?_)
      exact hB28 _ _ h _ _ _ hP (lv_sub hl [0] rfl)
  unfold F_X4_take at h
  refine lv_aload_n hx hb dX4_take_0 rfl (lv_at hl 0 rfl) ?_
  obtain ⟨q1, hq1, h⟩ := ob h
  refine vu_i hP (vu_V S hF hP (h := 21) (hlt _ (by decide)) rfl (by decide) rfl (c_X4_peek l P hA hn w hq1) ok_X4_peek ml_X4_43 ⟨Nat.le_of_ble_eq_true rfl, Nat.le_of_ble_eq_true rfl⟩ rfl hl.1 rfl (Nat.le_of_ble_eq_true rfl) dX4_take_1 ⟨Nat.le_of_ble_eq_true rfl, Nat.le_of_ble_eq_true rfl⟩) (fun H locs ho2 hP => ?_)
  refine lv_iload_n hx hb dX4_take_4 rfl (lv_at hl 1 rfl) ?_
  refine lv_icmp_ne (tgt := 12) hx hb dX4_take_5 (by decide) (fun c6 => ?_) (fun c6 => ?_)
  · rw [if_neg c6] at h
    refine lv_iconst (v := 0) hx hb dX4_take_12 (by decide) ?_
    exact hB13 _ _ h _ _ _ hP (lv_sub hl [0] rfl)
  · rw [if_pos c6] at h
    refine lv_iconst (v := 1) hx hb dX4_take_8 (by decide) ?_
    refine lv_goto (tgt := 13) hx hb dX4_take_9 (by decide) ?_
    exact hB13 _ _ h _ _ _ hP (lv_sub hl [0] rfl)
set_option maxRecDepth 100000 in
set_option maxHeartbeats 4000000 in
theorem c_X4_takeCode (l : Launch) (P : Pl) (hA : Adr P) (hn : 26 ≤ P.2.2.2.1) (w : Wo) (x1 : Int32) {r : Int32 × Wo} (h : F_X4_takeCode w x1 = some r) : CtI l P yX4_takeCode cX4_takeCode 3 (some .int) 1 [.ref (P.2.1 21), .int x1] w r.1 r.2 := by
  have hlt : ∀ h, h < 26 → h < P.2.2.2.1 := fun h q => Nat.lt_of_lt_of_le q hn
  refine vs_met hA (by decide +kernel) (Nat.le_of_ble_eq_true rfl) (fun p e s m args below meth c ls S hF hP hl hr hk => ?_)
  have hx := S.1
  have hb := S.2.1
  replace hl : lv_has ls 3 [(0, .ref (P.2.1 21)), (1, .int x1)] := hl
  have hB29 : ∀ (w : Wo) (x2 : Int32), B_X4_takeCode_29 w x2 = some r → ∀ (H : Heap) (locs : List Loc) (ls : Array Slot), St P s w H locs → lv_has ls 3 [(2, .int x2)] → W p l e (rmU 1 0 0) s m args below meth c H locs 0 0 (QI P (some .int) r.1 r.2 below args s) (F0 m 29 ls []) := by
    intro w x2 h H locs ls hP hl
    unfold B_X4_takeCode_29 at h
    refine lv_iload_n hx hb dX4_takeCode_29 rfl (lv_at hl 0 rfl) ?_
    obtain rfl := Option.some.inj h
    exact ve_i (v := x2) S hF hP hr hk rfl dX4_takeCode_30
  unfold F_X4_takeCode at h
  refine lv_aload_n hx hb dX4_takeCode_0 rfl (lv_at hl 0 rfl) ?_
  obtain ⟨q1, hq1, h⟩ := ob h
  refine vu_i hP (vu_V S hF hP (h := 21) (hlt _ (by decide)) rfl (by decide) rfl (c_X4_peek l P hA hn w hq1) ok_X4_peek ml_X4_43 ⟨Nat.le_of_ble_eq_true rfl, Nat.le_of_ble_eq_true rfl⟩ rfl hl.1 rfl (Nat.le_of_ble_eq_true rfl) dX4_takeCode_1 ⟨Nat.le_of_ble_eq_true rfl, Nat.le_of_ble_eq_true rfl⟩) (fun H locs ho2 hP => ?_)
  refine vu_i hP (vu_SN S hF hP (host := RX5) (c_X5_codeOf l P hA hn w q1) ok_X5_codeOf (by decide +kernel) ⟨Nat.le_of_ble_eq_true rfl, Nat.le_of_ble_eq_true rfl⟩ rfl hl.1 rfl (Nat.le_of_ble_eq_true rfl) dX4_takeCode_4 ⟨Nat.le_of_ble_eq_true rfl, Nat.le_of_ble_eq_true rfl⟩) (fun H locs ho3 hP => ?_)
  refine lv_istore_n (lv' := [(2, .int (F_X5_codeOf q1)), (0, .ref (P.2.1 21)), (1, .int x1)]) hx hb dX4_takeCode_7 rfl hl (by decide) rfl (fun ls hl => ?_)
  refine lv_iload_n hx hb dX4_takeCode_8 rfl (lv_at hl 0 rfl) ?_
  refine lv_if_lt (tgt := 17) hx hb dX4_takeCode_9 (by decide) (fun c4 => ?_) (fun c4 => ?_)
  · rw [if_pos c4] at h
    refine lv_iconst (v := (-1)) hx hb dX4_takeCode_17 (by decide) ?_
    obtain rfl := Option.some.inj h
    exact ve_i (v := (-1)) S hF hP hr hk rfl dX4_takeCode_18
  · rw [if_neg c4] at h
    refine lv_iload_n hx hb dX4_takeCode_12 rfl (lv_at hl 0 rfl) ?_
    refine lv_iload_n hx hb dX4_takeCode_13 rfl (lv_at hl 2 rfl) ?_
    refine lv_icmp_le (tgt := 19) hx hb dX4_takeCode_14 (by decide) (fun c5 => ?_) (fun c5 => ?_)
    · rw [if_pos c5] at h
      refine lv_aload_n hx hb dX4_takeCode_19 rfl (lv_at hl 1 rfl) ?_
      refine lv_dup hx hb dX4_takeCode_20 rfl ?_
      refine vt_getI S hF hP (k := 5) (ci := 4) 21 (hlt _ (by decide)) rfl (by decide) rfl (by decide) rfl (inC_X4 _) (List.mem_cons_of_mem _ fl_X4_29) dX4_takeCode_21 ?_
      refine lv_iconst (v := 1) hx hb dX4_takeCode_24 (by decide) ?_
      refine lv_iadd hx hb dX4_takeCode_25 ?_
      refine vt_putI S hF hP (k := 5) (ci := 4) 21 (hlt _ (by decide)) rfl (by decide) rfl (by decide) rfl tyX4 tyX4_ok nmX4 rfl rfl rfl rfl (by decide) (inC_X4 _) (List.mem_cons_of_mem _ fl_X4_29) dX4_takeCode_26 (fun H locs hP => ?_)
      exact hB29 _ _ h _ _ _ hP (lv_sub hl [0] rfl)
    · rw [if_neg c5] at h
      refine lv_iconst (v := (-1)) hx hb dX4_takeCode_17 (by decide) ?_
      obtain rfl := Option.some.inj h
      exact ve_i (v := (-1)) S hF hP hr hk rfl dX4_takeCode_18
set_option maxRecDepth 100000 in
set_option maxHeartbeats 4000000 in
theorem c_X4_takeOther (l : Launch) (P : Pl) (hA : Adr P) (hn : 26 ≤ P.2.2.2.1) (w : Wo) (x1 : Int32) {r : Int32 × Wo} (h : F_X4_takeOther w x1 = some r) : CtI l P yX4_takeOther cX4_takeOther 2 (some .int) 2 [.ref (P.2.1 21), .int x1] w r.1 r.2 := by
  have hlt : ∀ h, h < 26 → h < P.2.2.2.1 := fun h q => Nat.lt_of_lt_of_le q hn
  refine vs_met hA (by decide +kernel) (Nat.le_of_ble_eq_true rfl) (fun p e s m args below meth c ls S hF hP hl hr hk => ?_)
  have hx := S.1
  have hb := S.2.1
  replace hl : lv_has ls 2 [(0, .ref (P.2.1 21)), (1, .int x1)] := hl
  unfold F_X4_takeOther at h
  refine lv_iload_n hx hb dX4_takeOther_0 rfl (lv_at hl 1 rfl) ?_
  by_cases c7 : x1 = 103
  · rw [if_pos c7] at h
    refine lv_lookup (off := 50) (tgt := 51) hx hb dX4_takeOther_1 (by decide) (by rw [c7]; rfl) (by decide) ?_
    refine lv_aload_n hx hb dX4_takeOther_51 rfl (lv_at hl 0 rfl) ?_
    refine lv_bipush (v := 12) hx hb dX4_takeOther_52 (by decide) ?_
    obtain ⟨q1, hq1, h⟩ := ob h
    refine vu_i hP (vu_V S hF hP (h := 21) (hlt _ (by decide)) rfl (by decide) rfl (c_X4_takeCode l P hA hn w 12 hq1) ok_X4_takeCode ml_X4_66 ⟨Nat.le_of_ble_eq_true rfl, Nat.le_of_ble_eq_true rfl⟩ rfl hl.1 rfl (Nat.le_of_ble_eq_true rfl) dX4_takeOther_54 ⟨Nat.le_of_ble_eq_true rfl, Nat.le_of_ble_eq_true rfl⟩) (fun H locs ho2 hP => ?_)
    obtain rfl := Option.some.inj h
    exact ve_i (v := q1.1) S hF hP hr hk rfl dX4_takeOther_57
  rw [if_neg c7] at h
  by_cases c8 : x1 = 112
  · rw [if_pos c8] at h
    refine lv_lookup (off := 43) (tgt := 44) hx hb dX4_takeOther_1 (by decide) (by rw [c8]; rfl) (by decide) ?_
    refine lv_aload_n hx hb dX4_takeOther_44 rfl (lv_at hl 0 rfl) ?_
    refine lv_bipush (v := 11) hx hb dX4_takeOther_45 (by decide) ?_
    obtain ⟨q3, hq3, h⟩ := ob h
    refine vu_i hP (vu_V S hF hP (h := 21) (hlt _ (by decide)) rfl (by decide) rfl (c_X4_takeCode l P hA hn w 11 hq3) ok_X4_takeCode ml_X4_66 ⟨Nat.le_of_ble_eq_true rfl, Nat.le_of_ble_eq_true rfl⟩ rfl hl.1 rfl (Nat.le_of_ble_eq_true rfl) dX4_takeOther_47 ⟨Nat.le_of_ble_eq_true rfl, Nat.le_of_ble_eq_true rfl⟩) (fun H locs ho4 hP => ?_)
    obtain rfl := Option.some.inj h
    exact ve_i (v := q3.1) S hF hP hr hk rfl dX4_takeOther_50
  rw [if_neg c8] at h
  by_cases c9 : x1 = 116
  · rw [if_pos c9] at h
    refine lv_lookup (off := 57) (tgt := 58) hx hb dX4_takeOther_1 (by decide) (by rw [c9]; rfl) (by decide) ?_
    refine lv_iconst (v := 0) hx hb dX4_takeOther_58 (by decide) ?_
    obtain rfl := Option.some.inj h
    exact ve_i (v := 0) S hF hP hr hk rfl dX4_takeOther_59
  rw [if_neg c9] at h
  by_cases c10 : x1 = 120
  · rw [if_pos c10] at h
    refine lv_lookup (off := 57) (tgt := 58) hx hb dX4_takeOther_1 (by decide) (by rw [c10]; rfl) (by decide) ?_
    refine lv_iconst (v := 0) hx hb dX4_takeOther_58 (by decide) ?_
    obtain rfl := Option.some.inj h
    exact ve_i (v := 0) S hF hP hr hk rfl dX4_takeOther_59
  rw [if_neg c10] at h
  refine lv_lookup (off := 59) (tgt := 60) hx hb dX4_takeOther_1 (by decide) (lk_out (fun q hq => ?_)) (by decide) ?_
  · have hq2 : q = (103, 50) ∨ q = (112, 43) ∨ q = (116, 57) ∨ q = (120, 57) := by simpa using hq
    rcases hq2 with rfl | rfl | rfl | rfl
    · exact c7
    · exact c8
    · exact c9
    · exact c10
  refine lv_aload_n hx hb dX4_takeOther_60 rfl (lv_at hl 0 rfl) ?_
  obtain ⟨q5, hq5, h⟩ := ob h
  refine vu_i hP (vu_V S hF hP (h := 21) (hlt _ (by decide)) rfl (by decide) rfl (c_X4_takeDigit l P hA hn w hq5) ok_X4_takeDigit ml_X4_55 ⟨Nat.le_of_ble_eq_true rfl, Nat.le_of_ble_eq_true rfl⟩ rfl hl.1 rfl (Nat.le_of_ble_eq_true rfl) dX4_takeOther_61 ⟨Nat.le_of_ble_eq_true rfl, Nat.le_of_ble_eq_true rfl⟩) (fun H locs ho6 hP => ?_)
  obtain rfl := Option.some.inj h
  exact ve_i (v := q5.1) S hF hP hr hk rfl dX4_takeOther_64
set_option maxRecDepth 100000 in
set_option maxHeartbeats 4000000 in
theorem c_X4_add (l : Launch) (P : Pl) (hA : Adr P) (hn : 26 ≤ P.2.2.2.1) (w : Wo) (x1 : Int32) (x2 : Int32) (x3 : Int32) {r : Wo} (h : F_X4_add w x1 x2 x3 = some r) : CtV l P yX4_add cX4_add 4 none 0 [.ref (P.2.1 21), .int x1, .int x2, .int x3] w r := by
  have hlt : ∀ h, h < 26 → h < P.2.2.2.1 := fun h q => Nat.lt_of_lt_of_le q hn
  refine vs_met hA (by decide +kernel) (Nat.le_of_ble_eq_true rfl) (fun p e s m args below meth c ls S hF hP hl hr hk => ?_)
  have hx := S.1
  have hb := S.2.1
  replace hl : lv_has ls 4 [(0, .ref (P.2.1 21)), (1, .int x1), (2, .int x2), (3, .int x3)] := hl
  have hB73 : ∀ (w : Wo), B_X4_add_73 w = some r → ∀ (H : Heap) (locs : List Loc) (ls : Array Slot), St P s w H locs → lv_has ls 4 [(0, .ref (P.2.1 21))] → W p l e (rmU 0 0 0) s m args below meth c H locs 0 0 (QV P r below args s) (F0 m 73 ls []) := by
    intro w h H locs ls hP hl
    unfold B_X4_add_73 at h
    refine lv_aload_n hx hb dX4_add_73 rfl (lv_at hl 0 rfl) ?_
    refine lv_dup hx hb dX4_add_74 rfl ?_
    refine vt_getI S hF hP (k := 6) (ci := 4) 21 (hlt _ (by decide)) rfl (by decide) rfl (by decide) rfl (inC_X4 _) (List.mem_cons_of_mem _ fl_X4_32) dX4_add_75 ?_
    refine lv_iconst (v := 1) hx hb dX4_add_78 (by decide) ?_
    refine lv_iadd hx hb dX4_add_79 ?_
    refine vt_putI S hF hP (k := 6) (ci := 4) 21 (hlt _ (by decide)) rfl (by decide) rfl (by decide) rfl tyX4 tyX4_ok nmX4 rfl rfl rfl rfl (by decide) (inC_X4 _) (List.mem_cons_of_mem _ fl_X4_32) dX4_add_80 (fun H locs hP => ?_)
    obtain rfl := Option.some.inj h
    exact ve_v S hF hP hr hk dX4_add_83
  have hB63 : ∀ (w : Wo) (x3 : Int32), B_X4_add_63 w x3 = some r → ∀ (H : Heap) (locs : List Loc) (ls : Array Slot), St P s w H locs → lv_has ls 4 [(0, .ref (P.2.1 21)), (3, .int x3)] → W p l e (rmU 0 0 0) s m args below meth c H locs 0 0 (QV P r below args s) (F0 m 63 ls []) := by
    intro w x3 h H locs ls hP hl
    unfold B_X4_add_63 at h
    refine lv_aload_n hx hb dX4_add_63 rfl (lv_at hl 0 rfl) ?_
    refine vt_getR (r := 24) S hF hP (k := 2) (ci := 4) 21 (hlt _ (by decide)) rfl (by decide) rfl (by decide) rfl rfl (inC_X4 _) (List.mem_cons_of_mem _ fl_X4_18) dX4_add_64 ?_
    refine lv_aload_n hx hb dX4_add_67 rfl (lv_at hl 0 rfl) ?_
    refine vt_getI S hF hP (k := 6) (ci := 4) 21 (hlt _ (by decide)) rfl (by decide) rfl (by decide) rfl (inC_X4 _) (List.mem_cons_of_mem _ fl_X4_32) dX4_add_68 ?_
    refine lv_iload_n hx hb dX4_add_71 rfl (lv_at hl 1 rfl) ?_
    obtain ⟨c1, h⟩ := chk h
    refine vt_iast S hF hP (hlt _ (by decide)) rfl c1 dX4_add_72 (fun H locs hP => ?_)
    exact hB73 _ h _ _ _ hP (lv_sub hl [0] rfl)
  have hB53 : ∀ (w : Wo) (x2 : Int32) (x3 : Int32), B_X4_add_53 w x2 x3 = some r → ∀ (H : Heap) (locs : List Loc) (ls : Array Slot), St P s w H locs → lv_has ls 4 [(0, .ref (P.2.1 21)), (2, .int x2), (3, .int x3)] → W p l e (rmU 0 0 0) s m args below meth c H locs 0 0 (QV P r below args s) (F0 m 53 ls []) := by
    intro w x2 x3 h H locs ls hP hl
    unfold B_X4_add_53 at h
    refine lv_aload_n hx hb dX4_add_53 rfl (lv_at hl 0 rfl) ?_
    refine vt_getR (r := 23) S hF hP (k := 1) (ci := 4) 21 (hlt _ (by decide)) rfl (by decide) rfl (by decide) rfl rfl (inC_X4 _) (List.mem_cons_of_mem _ fl_X4_15) dX4_add_54 ?_
    refine lv_aload_n hx hb dX4_add_57 rfl (lv_at hl 0 rfl) ?_
    refine vt_getI S hF hP (k := 6) (ci := 4) 21 (hlt _ (by decide)) rfl (by decide) rfl (by decide) rfl (inC_X4 _) (List.mem_cons_of_mem _ fl_X4_32) dX4_add_58 ?_
    refine lv_iload_n hx hb dX4_add_61 rfl (lv_at hl 1 rfl) ?_
    obtain ⟨c2, h⟩ := chk h
    refine vt_iast S hF hP (hlt _ (by decide)) rfl c2 dX4_add_62 (fun H locs hP => ?_)
    exact hB63 _ _ h _ _ _ hP (lv_sub hl [0, 2] rfl)
  unfold F_X4_add at h
  refine lv_aload_n hx hb dX4_add_0 rfl (lv_at hl 0 rfl) ?_
  refine vt_getI S hF hP (k := 6) (ci := 4) 21 (hlt _ (by decide)) rfl (by decide) rfl (by decide) rfl (inC_X4 _) (List.mem_cons_of_mem _ fl_X4_32) dX4_add_1 ?_
  refine lv_if_lt (tgt := 83) hx hb dX4_add_4 (by decide) (fun c3 => ?_) (fun c3 => ?_)
  · rw [if_pos c3] at h
    obtain rfl := Option.some.inj h
    exact ve_v S hF hP hr hk dX4_add_83
  · rw [if_neg c3] at h
    refine lv_aload_n hx hb dX4_add_7 rfl (lv_at hl 0 rfl) ?_
    refine vt_getI S hF hP (k := 6) (ci := 4) 21 (hlt _ (by decide)) rfl (by decide) rfl (by decide) rfl (inC_X4 _) (List.mem_cons_of_mem _ fl_X4_32) dX4_add_8 ?_
    refine lv_aload_n hx hb dX4_add_11 rfl (lv_at hl 0 rfl) ?_
    refine vt_getR (r := 22) S hF hP (k := 0) (ci := 4) 21 (hlt _ (by decide)) rfl (by decide) rfl (by decide) rfl rfl (inC_X4 _) (List.mem_cons_of_mem _ fl_X4_9) dX4_add_12 ?_
    refine vt_alen (v := 60) S hF hP (hlt _ (by decide)) rfl (by decide) rfl dX4_add_15 ?_
    refine lv_icmp_ge (tgt := 83) hx hb dX4_add_16 (by decide) (fun c4 => ?_) (fun c4 => ?_)
    · rw [if_pos c4] at h
      obtain rfl := Option.some.inj h
      exact ve_v S hF hP hr hk dX4_add_83
    · rw [if_neg c4] at h
      refine lv_aload_n hx hb dX4_add_19 rfl (lv_at hl 0 rfl) ?_
      refine vt_getI S hF hP (k := 6) (ci := 4) 21 (hlt _ (by decide)) rfl (by decide) rfl (by decide) rfl (inC_X4 _) (List.mem_cons_of_mem _ fl_X4_32) dX4_add_20 ?_
      refine lv_aload_n hx hb dX4_add_23 rfl (lv_at hl 0 rfl) ?_
      refine vt_getR (r := 23) S hF hP (k := 1) (ci := 4) 21 (hlt _ (by decide)) rfl (by decide) rfl (by decide) rfl rfl (inC_X4 _) (List.mem_cons_of_mem _ fl_X4_15) dX4_add_24 ?_
      refine vt_alen (v := 60) S hF hP (hlt _ (by decide)) rfl (by decide) rfl dX4_add_27 ?_
      refine lv_icmp_ge (tgt := 83) hx hb dX4_add_28 (by decide) (fun c5 => ?_) (fun c5 => ?_)
      · rw [if_pos c5] at h
        obtain rfl := Option.some.inj h
        exact ve_v S hF hP hr hk dX4_add_83
      · rw [if_neg c5] at h
        refine lv_aload_n hx hb dX4_add_31 rfl (lv_at hl 0 rfl) ?_
        refine vt_getI S hF hP (k := 6) (ci := 4) 21 (hlt _ (by decide)) rfl (by decide) rfl (by decide) rfl (inC_X4 _) (List.mem_cons_of_mem _ fl_X4_32) dX4_add_32 ?_
        refine lv_aload_n hx hb dX4_add_35 rfl (lv_at hl 0 rfl) ?_
        refine vt_getR (r := 24) S hF hP (k := 2) (ci := 4) 21 (hlt _ (by decide)) rfl (by decide) rfl (by decide) rfl rfl (inC_X4 _) (List.mem_cons_of_mem _ fl_X4_18) dX4_add_36 ?_
        refine vt_alen (v := 60) S hF hP (hlt _ (by decide)) rfl (by decide) rfl dX4_add_39 ?_
        refine lv_icmp_ge (tgt := 83) hx hb dX4_add_40 (by decide) (fun c6 => ?_) (fun c6 => ?_)
        · rw [if_pos c6] at h
          obtain rfl := Option.some.inj h
          exact ve_v S hF hP hr hk dX4_add_83
        · rw [if_neg c6] at h
          refine lv_aload_n hx hb dX4_add_43 rfl (lv_at hl 0 rfl) ?_
          refine vt_getR (r := 22) S hF hP (k := 0) (ci := 4) 21 (hlt _ (by decide)) rfl (by decide) rfl (by decide) rfl rfl (inC_X4 _) (List.mem_cons_of_mem _ fl_X4_9) dX4_add_44 ?_
          refine lv_aload_n hx hb dX4_add_47 rfl (lv_at hl 0 rfl) ?_
          refine vt_getI S hF hP (k := 6) (ci := 4) 21 (hlt _ (by decide)) rfl (by decide) rfl (by decide) rfl (inC_X4 _) (List.mem_cons_of_mem _ fl_X4_32) dX4_add_48 ?_
          refine lv_iload_n hx hb dX4_add_51 rfl (lv_at hl 1 rfl) ?_
          obtain ⟨c7, h⟩ := chk h
          refine vt_iast S hF hP (hlt _ (by decide)) rfl c7 dX4_add_52 (fun H locs hP => ?_)
          exact hB53 _ _ _ h _ _ _ hP (lv_sub hl [0, 2, 3] rfl)
set_option maxRecDepth 100000 in
set_option maxHeartbeats 4000000 in
theorem c_X4_readOrder (l : Launch) (P : Pl) (hA : Adr P) (hn : 26 ≤ P.2.2.2.1) (w : Wo) {r : Int32 × Wo} (h : F_X4_readOrder w = some r) : CtI l P yX4_readOrder cX4_readOrder 4 (some .boolean) 3 [.ref (P.2.1 21)] w r.1 r.2 := by
  have hlt : ∀ h, h < 26 → h < P.2.2.2.1 := fun h q => Nat.lt_of_lt_of_le q hn
  refine vs_met hA (by decide +kernel) (Nat.le_of_ble_eq_true rfl) (fun p e s m args below meth c ls S hF hP hl hr hk => ?_)
  have hx := S.1
  have hb := S.2.1
  replace hl : lv_has ls 4 [(0, .ref (P.2.1 21))] := hl
  have hB69 : ∀ (w : Wo) (x1 : Int32) (x2 : Int32), B_X4_readOrder_69 w x1 x2 = some r → ∀ (H : Heap) (locs : List Loc) (ls : Array Slot), St P s w H locs → lv_has ls 4 [(0, .ref (P.2.1 21)), (1, .int x1), (2, .int x2)] → W p l e (rmU 3 0 0) s m args below meth c H locs 0 0 (QI P (some .boolean) r.1 r.2 below args s) (F0 m 69 ls []) := by
    intro w x1 x2 h H locs ls hP hl
    unfold B_X4_readOrder_69 at h
    refine lv_aload_n hx hb dX4_readOrder_69 rfl (lv_at hl 0 rfl) ?_
    refine lv_iload_n hx hb dX4_readOrder_70 rfl (lv_at hl 1 rfl) ?_
    obtain ⟨q6, hq6, h⟩ := ob h
    refine vu_i hP (vu_V S hF hP (h := 21) (hlt _ (by decide)) rfl (by decide) rfl (c_X4_takeOther l P hA hn w x1 hq6) ok_X4_takeOther ml_X4_58 ⟨Nat.le_of_ble_eq_true rfl, Nat.le_of_ble_eq_true rfl⟩ rfl hl.1 rfl (Nat.le_of_ble_eq_true rfl) dX4_readOrder_71 ⟨Nat.le_of_ble_eq_true rfl, Nat.le_of_ble_eq_true rfl⟩) (fun H locs ho7 hP => ?_)
    refine lv_istore_n (lv' := [(3, .int q6.1), (0, .ref (P.2.1 21)), (1, .int x1), (2, .int x2)]) hx hb dX4_readOrder_74 rfl hl (by decide) rfl (fun ls hl => ?_)
    refine lv_iload_n hx hb dX4_readOrder_75 rfl (lv_at hl 0 rfl) ?_
    refine lv_if_ge (tgt := 81) hx hb dX4_readOrder_76 (by decide) (fun c13 => ?_) (fun c13 => ?_)
    · rw [if_pos c13] at h
      refine lv_aload_n hx hb dX4_readOrder_81 rfl (lv_at hl 1 rfl) ?_
      refine lv_iload_n hx hb dX4_readOrder_82 rfl (lv_at hl 2 rfl) ?_
      refine lv_iload_n hx hb dX4_readOrder_83 rfl (lv_at hl 3 rfl) ?_
      refine lv_iload_n hx hb dX4_readOrder_84 rfl (lv_at hl 0 rfl) ?_
      obtain ⟨q8, hq8, h⟩ := ob h
      refine vu_v hP (vu_V S hF hP (h := 21) (hlt _ (by decide)) rfl (by decide) rfl (c_X4_add l P hA hn q6.2 x1 x2 q6.1 hq8) ok_X4_add ml_X4_62 ⟨Nat.le_of_ble_eq_true rfl, Nat.le_of_ble_eq_true rfl⟩ rfl hl.1 rfl (Nat.le_of_ble_eq_true rfl) dX4_readOrder_85 ⟨Nat.le_of_ble_eq_true rfl, Nat.le_of_ble_eq_true rfl⟩) (fun H locs hP => ?_)
      refine lv_iconst (v := 1) hx hb dX4_readOrder_88 (by decide) ?_
      obtain rfl := Option.some.inj h
      exact ve_i (v := 1) S hF hP hr hk rfl dX4_readOrder_89
    · rw [if_neg c13] at h
      refine lv_iconst (v := 0) hx hb dX4_readOrder_79 (by decide) ?_
      obtain rfl := Option.some.inj h
      exact ve_i (v := 0) S hF hP hr hk rfl dX4_readOrder_80
  have hB47 : ∀ (w : Wo) (x1 : Int32) (t0 : Int32), B_X4_readOrder_47 w x1 t0 = some r → ∀ (H : Heap) (locs : List Loc) (ls : Array Slot), St P s w H locs → lv_has ls 4 [(0, .ref (P.2.1 21)), (1, .int x1)] → W p l e (rmU 3 0 0) s m args below meth c H locs 0 0 (QI P (some .boolean) r.1 r.2 below args s) (F0 m 47 ls [.int t0]) := by
    intro w x1 t0 h H locs ls hP hl
    unfold B_X4_readOrder_47 at h
    refine lv_istore_n (lv' := [(2, .int t0), (0, .ref (P.2.1 21)), (1, .int x1)]) hx hb dX4_readOrder_47 rfl hl (by decide) rfl (fun ls hl => ?_)
    refine lv_iload_n hx hb dX4_readOrder_48 rfl (lv_at hl 0 rfl) ?_
    refine lv_if_lt (tgt := 67) hx hb dX4_readOrder_49 (by decide) (fun c14 => ?_) (fun c14 => ?_)
    · rw [if_pos c14] at h
      refine lv_iconst (v := 0) hx hb dX4_readOrder_67 (by decide) ?_
      obtain rfl := Option.some.inj h
      exact ve_i (v := 0) S hF hP hr hk rfl dX4_readOrder_68
    · rw [if_neg c14] at h
      refine lv_iload_n hx hb dX4_readOrder_52 rfl (lv_at hl 2 rfl) ?_
      refine lv_bipush (v := 114) hx hb dX4_readOrder_53 (by decide) ?_
      refine lv_icmp_ne (tgt := 69) hx hb dX4_readOrder_55 (by decide) (fun c15 => ?_) (fun c15 => ?_)
      · rw [if_neg c15] at h
        exact hB69 _ _ _ h _ _ _ hP (lv_sub hl [1, 2, 0] rfl)
      · rw [if_pos c15] at h
        refine lv_aload_n hx hb dX4_readOrder_58 rfl (lv_at hl 1 rfl) ?_
        refine lv_bipush (v := 47) hx hb dX4_readOrder_59 (by decide) ?_
        obtain ⟨q9, hq9, h⟩ := ob h
        refine vu_i hP (vu_V S hF hP (h := 21) (hlt _ (by decide)) rfl (by decide) rfl (c_X4_take l P hA hn w 47 hq9) ok_X4_take ml_X4_39 ⟨Nat.le_of_ble_eq_true rfl, Nat.le_of_ble_eq_true rfl⟩ rfl hl.1 rfl (Nat.le_of_ble_eq_true rfl) dX4_readOrder_61 ⟨Nat.le_of_ble_eq_true rfl, Nat.le_of_ble_eq_true rfl⟩) (fun H locs ho10 hP => ?_)
        refine lv_if_ne (tgt := 69) hx hb dX4_readOrder_64 (by decide) (fun c16 => ?_) (fun c16 => ?_)
        · rw [if_neg c16] at h
          exact hB69 _ _ _ h _ _ _ hP (lv_sub hl [1, 2, 0] rfl)
        · rw [if_pos c16] at h
          refine lv_iconst (v := 0) hx hb dX4_readOrder_67 (by decide) ?_
          obtain rfl := Option.some.inj h
          exact ve_i (v := 0) S hF hP hr hk rfl dX4_readOrder_68
  have hB36 : ∀ (w : Wo) (x1 : Int32), B_X4_readOrder_36 w x1 = some r → ∀ (H : Heap) (locs : List Loc) (ls : Array Slot), St P s w H locs → lv_has ls 4 [(0, .ref (P.2.1 21)), (1, .int x1)] → W p l e (rmU 3 0 0) s m args below meth c H locs 0 0 (QI P (some .boolean) r.1 r.2 below args s) (F0 m 36 ls []) := by
    intro w x1 h H locs ls hP hl
    unfold B_X4_readOrder_36 at h
    refine lv_aload_n hx hb dX4_readOrder_36 rfl (lv_at hl 0 rfl) ?_
    obtain ⟨q4, hq4, h⟩ := ob h
    refine vu_i hP (vu_V S hF hP (h := 21) (hlt _ (by decide)) rfl (by decide) rfl (c_X4_takeNumber l P hA hn w hq4) ok_X4_takeNumber ml_X4_51 ⟨Nat.le_of_ble_eq_true rfl, Nat.le_of_ble_eq_true rfl⟩ rfl hl.1 rfl (Nat.le_of_ble_eq_true rfl) dX4_readOrder_37 ⟨Nat.le_of_ble_eq_true rfl, Nat.le_of_ble_eq_true rfl⟩) (fun H locs ho5 hP => ?_)
    refine lv_goto (tgt := 47) hx hb dX4_readOrder_40 (by decide) ?_
    exact hB47 _ _ _ h _ _ _ hP (lv_sub hl [0, 1] rfl)
  have hB24 : ∀ (w : Wo) (x1 : Int32), B_X4_readOrder_24 w x1 = some r → ∀ (H : Heap) (locs : List Loc) (ls : Array Slot), St P s w H locs → lv_has ls 4 [(0, .ref (P.2.1 21)), (1, .int x1)] → W p l e (rmU 3 0 0) s m args below meth c H locs 0 0 (QI P (some .boolean) r.1 r.2 below args s) (F0 m 24 ls []) := by
    intro w x1 h H locs ls hP hl
    unfold B_X4_readOrder_24 at h
    refine lv_iload_n hx hb dX4_readOrder_24 rfl (lv_at hl 1 rfl) ?_
    refine lv_bipush (v := 116) hx hb dX4_readOrder_25 (by decide) ?_
    refine lv_icmp_eq (tgt := 36) hx hb dX4_readOrder_27 (by decide) (fun c17 => ?_) (fun c17 => ?_)
    · rw [if_pos c17] at h
      exact hB36 _ _ h _ _ _ hP (lv_sub hl [0, 1] rfl)
    · rw [if_neg c17] at h
      refine lv_iload_n hx hb dX4_readOrder_30 rfl (lv_at hl 1 rfl) ?_
      refine lv_bipush (v := 114) hx hb dX4_readOrder_31 (by decide) ?_
      refine lv_icmp_ne (tgt := 43) hx hb dX4_readOrder_33 (by decide) (fun c18 => ?_) (fun c18 => ?_)
      · rw [if_neg c18] at h
        refine lv_aload_n hx hb dX4_readOrder_43 rfl (lv_at hl 0 rfl) ?_
        obtain ⟨q11, hq11, h⟩ := ob h
        refine vu_i hP (vu_V S hF hP (h := 21) (hlt _ (by decide)) rfl (by decide) rfl (c_X4_takeDigit l P hA hn w hq11) ok_X4_takeDigit ml_X4_55 ⟨Nat.le_of_ble_eq_true rfl, Nat.le_of_ble_eq_true rfl⟩ rfl hl.1 rfl (Nat.le_of_ble_eq_true rfl) dX4_readOrder_44 ⟨Nat.le_of_ble_eq_true rfl, Nat.le_of_ble_eq_true rfl⟩) (fun H locs ho12 hP => ?_)
        exact hB47 _ _ _ h _ _ _ hP (lv_sub hl [0, 1] rfl)
      · rw [if_pos c18] at h
        exact hB36 _ _ h _ _ _ hP (lv_sub hl [0, 1] rfl)
  unfold F_X4_readOrder at h
  refine lv_aload_n hx hb dX4_readOrder_0 rfl (lv_at hl 0 rfl) ?_
  obtain ⟨q1, hq1, h⟩ := ob h
  refine vu_i hP (vu_V S hF hP (h := 21) (hlt _ (by decide)) rfl (by decide) rfl (c_X4_peek l P hA hn w hq1) ok_X4_peek ml_X4_43 ⟨Nat.le_of_ble_eq_true rfl, Nat.le_of_ble_eq_true rfl⟩ rfl hl.1 rfl (Nat.le_of_ble_eq_true rfl) dX4_readOrder_1 ⟨Nat.le_of_ble_eq_true rfl, Nat.le_of_ble_eq_true rfl⟩) (fun H locs ho2 hP => ?_)
  refine lv_istore_n (lv' := [(1, .int q1), (0, .ref (P.2.1 21))]) hx hb dX4_readOrder_4 rfl hl (by decide) rfl (fun ls hl => ?_)
  refine lv_iload_n hx hb dX4_readOrder_5 rfl (lv_at hl 0 rfl) ?_
  refine vu_i hP (vu_S S hF hP (c_X4_isKind l P hA hn w q1) ok_X4_isKind ml_X4_47 ⟨Nat.le_of_ble_eq_true rfl, Nat.le_of_ble_eq_true rfl⟩ rfl hl.1 rfl (Nat.le_of_ble_eq_true rfl) dX4_readOrder_6 ⟨Nat.le_of_ble_eq_true rfl, Nat.le_of_ble_eq_true rfl⟩) (fun H locs ho3 hP => ?_)
  refine lv_if_ne (tgt := 14) hx hb dX4_readOrder_9 (by decide) (fun c19 => ?_) (fun c19 => ?_)
  · rw [if_neg c19] at h
    refine lv_aload_n hx hb dX4_readOrder_14 rfl (lv_at hl 1 rfl) ?_
    refine lv_dup hx hb dX4_readOrder_15 rfl ?_
    refine vt_getI S hF hP (k := 5) (ci := 4) 21 (hlt _ (by decide)) rfl (by decide) rfl (by decide) rfl (inC_X4 _) (List.mem_cons_of_mem _ fl_X4_29) dX4_readOrder_16 ?_
    refine lv_iconst (v := 1) hx hb dX4_readOrder_19 (by decide) ?_
    refine lv_iadd hx hb dX4_readOrder_20 ?_
    refine vt_putI S hF hP (k := 5) (ci := 4) 21 (hlt _ (by decide)) rfl (by decide) rfl (by decide) rfl tyX4 tyX4_ok nmX4 rfl rfl rfl rfl (by decide) (inC_X4 _) (List.mem_cons_of_mem _ fl_X4_29) dX4_readOrder_21 (fun H locs hP => ?_)
    exact hB24 _ _ h _ _ _ hP (lv_sub hl [1, 0] rfl)
  · rw [if_pos c19] at h
    refine lv_iconst (v := 0) hx hb dX4_readOrder_12 (by decide) ?_
    obtain rfl := Option.some.inj h
    exact ve_i (v := 0) S hF hP hr hk rfl dX4_readOrder_13
set_option maxRecDepth 100000 in
set_option maxHeartbeats 4000000 in
theorem c_X4_read (l : Launch) (P : Pl) (hA : Adr P) (hn : 26 ≤ P.2.2.2.1) (w : Wo) (x2 : Int32) {r : Int32 × Wo} (h : F_X4_read w x2 = some r) : CtI l P yX4_read cX4_read 4 (some .int) 4 [.ref (P.2.1 21), .ref (P.2.1 25), .int x2] w r.1 r.2 := by
  have hlt : ∀ h, h < 26 → h < P.2.2.2.1 := fun h q => Nat.lt_of_lt_of_le q hn
  refine vs_met hA (by decide +kernel) (Nat.le_of_ble_eq_true rfl) (fun p e s m args below meth c ls S hF hP hl hr hk => ?_)
  have hx := S.1
  have hb := S.2.1
  replace hl : lv_has ls 4 [(0, .ref (P.2.1 21)), (1, .ref (P.2.1 25)), (2, .int x2)] := hl
  have hB68 : ∀ (w : Wo), B_X4_read_68 w = some r → ∀ (H : Heap) (locs : List Loc) (ls : Array Slot), St P s w H locs → lv_has ls 4 [(0, .ref (P.2.1 21))] → W p l e (rmU 4 0 0) s m args below meth c H locs 0 0 (QI P (some .int) r.1 r.2 below args s) (F0 m 68 ls []) := by
    intro w h H locs ls hP hl
    unfold B_X4_read_68 at h
    refine lv_aload_n hx hb dX4_read_68 rfl (lv_at hl 0 rfl) ?_
    refine vt_getI S hF hP (k := 5) (ci := 4) 21 (hlt _ (by decide)) rfl (by decide) rfl (by decide) rfl (inC_X4 _) (List.mem_cons_of_mem _ fl_X4_29) dX4_read_69 ?_
    obtain rfl := Option.some.inj h
    exact ve_i (v := (gI w 21 5)) S hF hP hr hk rfl dX4_read_72
  have hB57 : ∀ (w : Wo), B_X4_read_57 w = some r → ∀ (H : Heap) (locs : List Loc) (ls : Array Slot), St P s w H locs → lv_has ls 4 [(0, .ref (P.2.1 21))] → W p l e (rmU 4 0 0) s m args below meth c H locs 0 0 (QI P (some .int) r.1 r.2 below args s) (F0 m 57 ls []) := by
    intro w h H locs ls hP hl
    unfold B_X4_read_57 at h
    refine lv_aload_n hx hb dX4_read_57 rfl (lv_at hl 0 rfl) ?_
    refine vt_getI S hF hP (k := 5) (ci := 4) 21 (hlt _ (by decide)) rfl (by decide) rfl (by decide) rfl (inC_X4 _) (List.mem_cons_of_mem _ fl_X4_29) dX4_read_58 ?_
    obtain rfl := Option.some.inj h
    exact ve_i (v := (gI w 21 5)) S hF hP hr hk rfl dX4_read_61
  have hL22 : ∀ (n : Nat) (w : Wo) (x3 : Int32), jl2 (B_X4_read_22) n w x3 = some r → ∀ (H : Heap) (locs : List Loc) (ls : Array Slot), St P s w H locs → lv_has ls 4 [(0, .ref (P.2.1 21)), (3, .int x3)] → W p l e (rmU 4 0 0) s m args below meth c H locs 0 0 (QI P (some .int) r.1 r.2 below args s) (F0 m 22 ls []) := by
    intro n
    induction n with
    | zero =>
      intro w x3 h
      cases h
    | succ n ih22 =>
      intro w x3 h H locs ls hP hl
      replace h : B_X4_read_22 (jl2 (B_X4_read_22) n) w x3 = some r := h
      revert h ih22
      generalize jl2 (B_X4_read_22) n = k22
      intro ih22 h
      unfold B_X4_read_22 at h
      refine lv_iload_n hx hb dX4_read_22 rfl (lv_at hl 1 rfl) ?_
      refine lv_bipush (v := 60) hx hb dX4_read_23 (by decide) ?_
      refine lv_icmp_ge (tgt := 68) hx hb dX4_read_25 (by decide) (fun c5 => ?_) (fun c5 => ?_)
      · rw [if_pos c5] at h
        exact hB68 _ h _ _ _ hP (lv_sub hl [0] rfl)
      · rw [if_neg c5] at h
        refine lv_aload_n hx hb dX4_read_28 rfl (lv_at hl 0 rfl) ?_
        obtain ⟨q1, hq1, h⟩ := ob h
        refine vu_i hP (vu_V S hF hP (h := 21) (hlt _ (by decide)) rfl (by decide) rfl (c_X4_readOrder l P hA hn w hq1) ok_X4_readOrder ml_X4_35 ⟨Nat.le_of_ble_eq_true rfl, Nat.le_of_ble_eq_true rfl⟩ rfl hl.1 rfl (Nat.le_of_ble_eq_true rfl) dX4_read_29 ⟨Nat.le_of_ble_eq_true rfl, Nat.le_of_ble_eq_true rfl⟩) (fun H locs ho2 hP => ?_)
        refine lv_if_eq (tgt := 68) hx hb dX4_read_32 (by decide) (fun c6 => ?_) (fun c6 => ?_)
        · rw [if_pos c6] at h
          exact hB68 _ h _ _ _ hP (lv_sub hl [0] rfl)
        · rw [if_neg c6] at h
          refine lv_aload_n hx hb dX4_read_35 rfl (lv_at hl 0 rfl) ?_
          refine vt_getI S hF hP (k := 5) (ci := 4) 21 (hlt _ (by decide)) rfl (by decide) rfl (by decide) rfl (inC_X4 _) (List.mem_cons_of_mem _ fl_X4_29) dX4_read_36 ?_
          refine lv_aload_n hx hb dX4_read_39 rfl (lv_at hl 0 rfl) ?_
          refine vt_getI S hF hP (k := 4) (ci := 4) 21 (hlt _ (by decide)) rfl (by decide) rfl (by decide) rfl (inC_X4 _) (List.mem_cons_of_mem _ fl_X4_25) dX4_read_40 ?_
          refine lv_icmp_lt (tgt := 48) hx hb dX4_read_43 (by decide) (fun c7 => ?_) (fun c7 => ?_)
          · rw [if_pos c7] at h
            refine lv_aload_n hx hb dX4_read_48 rfl (lv_at hl 0 rfl) ?_
            refine lv_bipush (v := 59) hx hb dX4_read_49 (by decide) ?_
            obtain ⟨q3, hq3, h⟩ := ob h
            refine vu_i hP (vu_V S hF hP (h := 21) (hlt _ (by decide)) rfl (by decide) rfl (c_X4_take l P hA hn q1.2 59 hq3) ok_X4_take ml_X4_39 ⟨Nat.le_of_ble_eq_true rfl, Nat.le_of_ble_eq_true rfl⟩ rfl hl.1 rfl (Nat.le_of_ble_eq_true rfl) dX4_read_51 ⟨Nat.le_of_ble_eq_true rfl, Nat.le_of_ble_eq_true rfl⟩) (fun H locs ho4 hP => ?_)
            refine lv_if_ne (tgt := 62) hx hb dX4_read_54 (by decide) (fun c8 => ?_) (fun c8 => ?_)
            · rw [if_neg c8] at h
              refine lv_iinc (v := (x3 + 1)) (lv' := [(3, .int (x3 + 1)), (0, .ref (P.2.1 21))]) hx hb dX4_read_62 hl (k := 1) rfl rfl (by decide) rfl (fun ls hl => ?_)
              refine lv_goto (tgt := 22) hx hb dX4_read_65 (by decide) ?_
              exact ih22 _ _ h _ _ _ hP (lv_sub hl [1, 0] rfl)
            · rw [if_pos c8] at h
              exact hB57 _ h _ _ _ hP (lv_sub hl [0] rfl)
          · rw [if_neg c7] at h
            refine lv_iconst (v := (-1)) hx hb dX4_read_46 (by decide) ?_
            obtain rfl := Option.some.inj h
            exact ve_i (v := (-1)) S hF hP hr hk rfl dX4_read_47
  have hB20 : ∀ (w : Wo), B_X4_read_20 w = some r → ∀ (H : Heap) (locs : List Loc) (ls : Array Slot), St P s w H locs → lv_has ls 4 [(0, .ref (P.2.1 21))] → W p l e (rmU 4 0 0) s m args below meth c H locs 0 0 (QI P (some .int) r.1 r.2 below args s) (F0 m 20 ls []) := by
    intro w h H locs ls hP hl
    unfold B_X4_read_20 at h
    refine lv_iconst (v := 0) hx hb dX4_read_20 (by decide) ?_
    refine lv_istore_n (lv' := [(3, .int 0), (0, .ref (P.2.1 21))]) hx hb dX4_read_21 rfl hl (by decide) rfl (fun ls hl => ?_)
    exact hL22 fu _ _ h _ _ _ hP (lv_sub hl [1, 0] rfl)
  have hB15 : ∀ (w : Wo), B_X4_read_15 w = some r → ∀ (H : Heap) (locs : List Loc) (ls : Array Slot), St P s w H locs → lv_has ls 4 [(0, .ref (P.2.1 21))] → W p l e (rmU 4 0 0) s m args below meth c H locs 0 0 (QI P (some .int) r.1 r.2 below args s) (F0 m 15 ls []) := by
    intro w h H locs ls hP hl
    unfold B_X4_read_15 at h
    refine lv_aload_n hx hb dX4_read_15 rfl (lv_at hl 0 rfl) ?_
    refine lv_iconst (v := 0) hx hb dX4_read_16 (by decide) ?_
    refine vt_putI S hF hP (k := 6) (ci := 4) 21 (hlt _ (by decide)) rfl (by decide) rfl (by decide) rfl tyX4 tyX4_ok nmX4 rfl rfl rfl rfl (by decide) (inC_X4 _) (List.mem_cons_of_mem _ fl_X4_32) dX4_read_17 (fun H locs hP => ?_)
    exact hB20 _ h _ _ _ hP (lv_sub hl [0] rfl)
  have hB10 : ∀ (w : Wo), B_X4_read_10 w = some r → ∀ (H : Heap) (locs : List Loc) (ls : Array Slot), St P s w H locs → lv_has ls 4 [(0, .ref (P.2.1 21))] → W p l e (rmU 4 0 0) s m args below meth c H locs 0 0 (QI P (some .int) r.1 r.2 below args s) (F0 m 10 ls []) := by
    intro w h H locs ls hP hl
    unfold B_X4_read_10 at h
    refine lv_aload_n hx hb dX4_read_10 rfl (lv_at hl 0 rfl) ?_
    refine lv_iconst (v := 0) hx hb dX4_read_11 (by decide) ?_
    refine vt_putI S hF hP (k := 5) (ci := 4) 21 (hlt _ (by decide)) rfl (by decide) rfl (by decide) rfl tyX4 tyX4_ok nmX4 rfl rfl rfl rfl (by decide) (inC_X4 _) (List.mem_cons_of_mem _ fl_X4_29) dX4_read_12 (fun H locs hP => ?_)
    exact hB15 _ h _ _ _ hP (lv_sub hl [0] rfl)
  have hB5 : ∀ (w : Wo) (x2 : Int32), B_X4_read_5 w x2 = some r → ∀ (H : Heap) (locs : List Loc) (ls : Array Slot), St P s w H locs → lv_has ls 4 [(0, .ref (P.2.1 21)), (2, .int x2)] → W p l e (rmU 4 0 0) s m args below meth c H locs 0 0 (QI P (some .int) r.1 r.2 below args s) (F0 m 5 ls []) := by
    intro w x2 h H locs ls hP hl
    unfold B_X4_read_5 at h
    refine lv_aload_n hx hb dX4_read_5 rfl (lv_at hl 0 rfl) ?_
    refine lv_iload_n hx hb dX4_read_6 rfl (lv_at hl 1 rfl) ?_
    refine vt_putI S hF hP (k := 4) (ci := 4) 21 (hlt _ (by decide)) rfl (by decide) rfl (by decide) rfl tyX4 tyX4_ok nmX4 rfl rfl rfl rfl (by decide) (inC_X4 _) (List.mem_cons_of_mem _ fl_X4_25) dX4_read_7 (fun H locs hP => ?_)
    exact hB10 _ h _ _ _ hP (lv_sub hl [0] rfl)
  unfold F_X4_read at h
  refine lv_aload_n hx hb dX4_read_0 rfl (lv_at hl 0 rfl) ?_
  refine lv_aload_n hx hb dX4_read_1 rfl (lv_at hl 1 rfl) ?_
  refine vt_putN (r := 25) S hF hP (k := 3) (ci := 4) 21 (hlt _ (by decide)) rfl (by decide) rfl (by decide) rfl rfl tyX4 tyX4_ok nmX4 rfl rfl (by decide) (inC_X4 _) (List.mem_cons_of_mem _ fl_X4_21) dX4_read_2 (fun H locs hP => ?_)
  exact hB5 _ _ h _ _ _ hP (lv_sub hl [0, 2] rfl)
