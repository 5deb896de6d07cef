set_option maxRecDepth 100000 in
set_option maxHeartbeats 4000000 in
theorem c_X0_barredLines (l : Launch) (P : Pl) (hA : Adr P) (hn : 26 ≤ P.2.2.2.1) (w : Wo) : CtI l P yX0_barredLines cX0_barredLines 1 (some .int) 1 [.ref (P.2.1 1)] w (F_X0_barredLines w) w := by
  have hlt : ∀ h, h < 26 → h < P.2.2.2.1 := fun h q => Nat.lt_of_lt_of_le q hn
  obtain ⟨r, h⟩ : ∃ r, F_X0_barredLines w = r := ⟨_, rfl⟩
  rw [h]
  refine vs_met hA (by decide +kernel) (Nat.le_of_ble_eq_true rfl) (fun p e s m args below meth c ls S hF hP hl hr hk => ?_)
  have hx := S.1
  have hb := S.2.1
  replace hl : lv_has ls 1 [(0, .ref (P.2.1 1))] := hl
  unfold F_X0_barredLines at h
  refine lv_aload_n hx hb dX0_barredLines_0 rfl (lv_at hl 0 rfl) ?_
  refine vt_getI S hF hP (k := 4) (ci := 0) 1 (hlt _ (by decide)) rfl (by decide) rfl (by decide) rfl (inC_X0 _) (List.mem_cons_of_mem _ fl_X0_25) dX0_barredLines_1 ?_
  refine vu_i hP (vu_S S hF hP (c_J6_bitCount_0f7a4 l P hA hn w (gI w 1 4)) ok_J6_bitCount_0f7a4 ml_X0_64 ⟨Nat.le_of_ble_eq_true rfl, Nat.le_of_ble_eq_true rfl⟩ rfl hl.1 rfl (Nat.le_of_ble_eq_true rfl) dX0_barredLines_4 ⟨Nat.le_of_ble_eq_true rfl, Nat.le_of_ble_eq_true rfl⟩) (fun H locs ho1 hP => ?_)
  subst h
  exact ve_i (v := (F_J6_bitCount_0f7a4 (gI w 1 4))) S hF hP hr hk rfl dX0_barredLines_7
set_option maxRecDepth 100000 in
set_option maxHeartbeats 4000000 in
theorem c_X0_placeOn (l : Launch) (P : Pl) (hA : Adr P) (hn : 26 ≤ P.2.2.2.1) (w : Wo) (x1 : Int32) (x2 : Int32) : CtI l P yX0_placeOn cX0_placeOn 3 (some .int) 1 [.ref (P.2.1 1), .int x1, .int x2] w (F_X0_placeOn w x1 x2) w := by
  have hlt : ∀ h, h < 26 → h < P.2.2.2.1 := fun h q => Nat.lt_of_lt_of_le q hn
  obtain ⟨r, h⟩ : ∃ r, F_X0_placeOn w x1 x2 = r := ⟨_, rfl⟩
  rw [h]
  refine vs_met hA (by decide +kernel) (Nat.le_of_ble_eq_true rfl) (fun p e s m args below meth c ls S hF hP hl hr hk => ?_)
  have hx := S.1
  have hb := S.2.1
  replace hl : lv_has ls 3 [(0, .ref (P.2.1 1)), (1, .int x1), (2, .int x2)] := hl
  unfold F_X0_placeOn at h
  refine lv_aload_n hx hb dX0_placeOn_0 rfl (lv_at hl 0 rfl) ?_
  refine lv_iload_n hx hb dX0_placeOn_1 rfl (lv_at hl 1 rfl) ?_
  refine vu_i hP (vu_V S hF hP (h := 1) (hlt _ (by decide)) rfl (by decide) rfl (c_X0_lineStart l P hA hn w x1) ok_X0_lineStart ml_X0_73 ⟨Nat.le_of_ble_eq_true rfl, Nat.le_of_ble_eq_true rfl⟩ rfl hl.1 rfl (Nat.le_of_ble_eq_true rfl) dX0_placeOn_2 ⟨Nat.le_of_ble_eq_true rfl, Nat.le_of_ble_eq_true rfl⟩) (fun H locs ho1 hP => ?_)
  refine lv_iload_n hx hb dX0_placeOn_5 rfl (lv_at hl 2 rfl) ?_
  refine lv_aload_n hx hb dX0_placeOn_6 rfl (lv_at hl 0 rfl) ?_
  refine lv_iload_n hx hb dX0_placeOn_7 rfl (lv_at hl 1 rfl) ?_
  refine vu_i hP (vu_V S hF hP (h := 1) (hlt _ (by decide)) rfl (by decide) rfl (c_X0_lineStride l P hA hn w x1) ok_X0_lineStride ml_X0_76 ⟨Nat.le_of_ble_eq_true rfl, Nat.le_of_ble_eq_true rfl⟩ rfl hl.1 rfl (Nat.le_of_ble_eq_true rfl) dX0_placeOn_8 ⟨Nat.le_of_ble_eq_true rfl, Nat.le_of_ble_eq_true rfl⟩) (fun H locs ho2 hP => ?_)
  refine lv_imul hx hb dX0_placeOn_11 ?_
  refine lv_iadd hx hb dX0_placeOn_12 ?_
  subst h
  exact ve_i (v := ((F_X0_lineStart w x1) + (x2 * (F_X0_lineStride w x1)))) S hF hP hr hk rfl dX0_placeOn_13
set_option maxRecDepth 100000 in
set_option maxHeartbeats 4000000 in
theorem c_X5_isVowel (l : Launch) (P : Pl) (hA : Adr P) (hn : 26 ≤ P.2.2.2.1) (w : Wo) (x0 : Int32) : CtI l P yX5_isVowel cX5_isVowel 1 (some .boolean) 0 [.int x0] w (F_X5_isVowel x0) w := by
  have hlt : ∀ h, h < 26 → h < P.2.2.2.1 := fun h q => Nat.lt_of_lt_of_le q hn
  obtain ⟨r, h⟩ : ∃ r, F_X5_isVowel x0 = r := ⟨_, rfl⟩
  rw [h]
  refine vs_met hA (by decide +kernel) (Nat.le_of_ble_eq_true rfl) (fun p e s m args below meth c ls S hF hP hl hr hk => ?_)
  have hx := S.1
  have hb := S.2.1
  replace hl : lv_has ls 1 [(0, .int x0)] := hl
  have hB30 : B_X5_isVowel_30 = r → ∀ (H : Heap) (locs : List Loc) (ls : Array Slot), St P s w H locs → lv_has ls 1 [] → W p l e (rmU 0 0 0) s m args below meth c H locs 0 0 (QI P (some .boolean) r w below args s) (F0 m 30 ls []) := by
    intro h H locs ls hP hl
    unfold B_X5_isVowel_30 at h
    refine lv_iconst (v := 1) hx hb dX5_isVowel_30 (by decide) ?_
    refine lv_goto (tgt := 35) hx hb dX5_isVowel_31 (by decide) ?_
    subst h
    exact ve_i (v := 1) S hF hP hr hk rfl dX5_isVowel_35
  unfold F_X5_isVowel at h
  refine lv_iload_n hx hb dX5_isVowel_0 rfl (lv_at hl 0 rfl) ?_
  refine lv_bipush (v := 97) hx hb dX5_isVowel_1 (by decide) ?_
  refine lv_icmp_eq (tgt := 30) hx hb dX5_isVowel_3 (by decide) (fun c1 => ?_) (fun c1 => ?_)
  · rw [if_pos c1] at h
    exact hB30 h _ _ _ hP (lv_sub hl [] rfl)
  · rw [if_neg c1] at h
    refine lv_iload_n hx hb dX5_isVowel_6 rfl (lv_at hl 0 rfl) ?_
    refine lv_bipush (v := 101) hx hb dX5_isVowel_7 (by decide) ?_
    refine lv_icmp_eq (tgt := 30) hx hb dX5_isVowel_9 (by decide) (fun c2 => ?_) (fun c2 => ?_)
    · rw [if_pos c2] at h
      exact hB30 h _ _ _ hP (lv_sub hl [] rfl)
    · rw [if_neg c2] at h
      refine lv_iload_n hx hb dX5_isVowel_12 rfl (lv_at hl 0 rfl) ?_
      refine lv_bipush (v := 105) hx hb dX5_isVowel_13 (by decide) ?_
      refine lv_icmp_eq (tgt := 30) hx hb dX5_isVowel_15 (by decide) (fun c3 => ?_) (fun c3 => ?_)
      · rw [if_pos c3] at h
        exact hB30 h _ _ _ hP (lv_sub hl [] rfl)
      · rw [if_neg c3] at h
        refine lv_iload_n hx hb dX5_isVowel_18 rfl (lv_at hl 0 rfl) ?_
        refine lv_bipush (v := 111) hx hb dX5_isVowel_19 (by decide) ?_
        refine lv_icmp_eq (tgt := 30) hx hb dX5_isVowel_21 (by decide) (fun c4 => ?_) (fun c4 => ?_)
        · rw [if_pos c4] at h
          exact hB30 h _ _ _ hP (lv_sub hl [] rfl)
        · rw [if_neg c4] at h
          refine lv_iload_n hx hb dX5_isVowel_24 rfl (lv_at hl 0 rfl) ?_
          refine lv_bipush (v := 117) hx hb dX5_isVowel_25 (by decide) ?_
          refine lv_icmp_ne (tgt := 34) hx hb dX5_isVowel_27 (by decide) (fun c5 => ?_) (fun c5 => ?_)
          · rw [if_neg c5] at h
            refine lv_iconst (v := 0) hx hb dX5_isVowel_34 (by decide) ?_
            subst h
            exact ve_i (v := 0) S hF hP hr hk rfl dX5_isVowel_35
          · rw [if_pos c5] at h
            exact hB30 h _ _ _ hP (lv_sub hl [] rfl)
set_option maxRecDepth 100000 in
set_option maxHeartbeats 4000000 in
theorem c_X0_isVowelOn (l : Launch) (P : Pl) (hA : Adr P) (hn : 26 ≤ P.2.2.2.1) (w : Wo) (x1 : Int32) (x2 : Int32) : CtI l P yX0_isVowelOn cX0_isVowelOn 3 (some .boolean) 2 [.ref (P.2.1 1), .int x1, .int x2] w (F_X0_isVowelOn w x1 x2) w := by
  have hlt : ∀ h, h < 26 → h < P.2.2.2.1 := fun h q => Nat.lt_of_lt_of_le q hn
  obtain ⟨r, h⟩ : ∃ r, F_X0_isVowelOn w x1 x2 = r := ⟨_, rfl⟩
  rw [h]
  refine vs_met hA (by decide +kernel) (Nat.le_of_ble_eq_true rfl) (fun p e s m args below meth c ls S hF hP hl hr hk => ?_)
  have hx := S.1
  have hb := S.2.1
  replace hl : lv_has ls 3 [(0, .ref (P.2.1 1)), (1, .int x1), (2, .int x2)] := hl
  unfold F_X0_isVowelOn at h
  refine lv_aload_n hx hb dX0_isVowelOn_0 rfl (lv_at hl 0 rfl) ?_
  refine vt_getL S hF hP (k := 2) (ci := 0) 1 (hlt _ (by decide)) rfl (by decide) rfl (by decide) rfl (inC_X0 _) (List.mem_cons_of_mem _ fl_X0_18) dX0_isVowelOn_1 ?_
  refine lv_aload_n hx hb dX0_isVowelOn_4 rfl (lv_at hl 0 rfl) ?_
  refine lv_iload_n hx hb dX0_isVowelOn_5 rfl (lv_at hl 1 rfl) ?_
  refine lv_iload_n hx hb dX0_isVowelOn_6 rfl (lv_at hl 2 rfl) ?_
  refine vu_i hP (vu_V S hF hP (h := 1) (hlt _ (by decide)) rfl (by decide) rfl (c_X0_placeOn l P hA hn w x1 x2) ok_X0_placeOn ml_X0_144 ⟨Nat.le_of_ble_eq_true rfl, Nat.le_of_ble_eq_true rfl⟩ rfl hl.1 rfl (Nat.le_of_ble_eq_true rfl) dX0_isVowelOn_7 ⟨Nat.le_of_ble_eq_true rfl, Nat.le_of_ble_eq_true rfl⟩) (fun H locs ho1 hP => ?_)
  refine vu_i hP (vu_SN S hF hP (host := RX5) (c_X5_codeAt l P hA hn w (gL w 1 2) (F_X0_placeOn w x1 x2)) ok_X5_codeAt (by decide +kernel) ⟨Nat.le_of_ble_eq_true rfl, Nat.le_of_ble_eq_true rfl⟩ rfl hl.1 rfl (Nat.le_of_ble_eq_true rfl) dX0_isVowelOn_10 ⟨Nat.le_of_ble_eq_true rfl, Nat.le_of_ble_eq_true rfl⟩) (fun H locs ho2 hP => ?_)
  refine vu_i hP (vu_SN S hF hP (host := RX5) (c_X5_signOf l P hA hn w (F_X5_codeAt (gL w 1 2) (F_X0_placeOn w x1 x2))) ok_X5_signOf (by decide +kernel) ⟨Nat.le_of_ble_eq_true rfl, Nat.le_of_ble_eq_true rfl⟩ rfl hl.1 rfl (Nat.le_of_ble_eq_true rfl) dX0_isVowelOn_13 ⟨Nat.le_of_ble_eq_true rfl, Nat.le_of_ble_eq_true rfl⟩) (fun H locs ho3 hP => ?_)
  refine vu_i hP (vu_SN S hF hP (host := RX5) (c_X5_isVowel l P hA hn w (F_X5_signOf (F_X5_codeAt (gL w 1 2) (F_X0_placeOn w x1 x2)))) ok_X5_isVowel (by decide +kernel) ⟨Nat.le_of_ble_eq_true rfl, Nat.le_of_ble_eq_true rfl⟩ rfl hl.1 rfl (Nat.le_of_ble_eq_true rfl) dX0_isVowelOn_16 ⟨Nat.le_of_ble_eq_true rfl, Nat.le_of_ble_eq_true rfl⟩) (fun H locs ho4 hP => ?_)
  subst h
  exact ve_i (v := (F_X5_isVowel (F_X5_signOf (F_X5_codeAt (gL w 1 2) (F_X0_placeOn w x1 x2))))) S hF hP hr hk ho4 dX0_isVowelOn_19
set_option maxRecDepth 100000 in
set_option maxHeartbeats 4000000 in
theorem c_X0_vowelsOn (l : Launch) (P : Pl) (hA : Adr P) (hn : 26 ≤ P.2.2.2.1) (w : Wo) (x1 : Int32) {r : Int32} (h : F_X0_vowelsOn w x1 = some r) : CtI l P yX0_vowelsOn cX0_vowelsOn 4 (some .int) 3 [.ref (P.2.1 1), .int x1] w r w := by
  have hlt : ∀ h, h < 26 → h < P.2.2.2.1 := fun h q => Nat.lt_of_lt_of_le q hn
  refine vs_met hA (by decide +kernel) (Nat.le_of_ble_eq_true rfl) (fun p e s m args below meth c ls S hF hP hl hr hk => ?_)
  have hx := S.1
  have hb := S.2.1
  replace hl : lv_has ls 4 [(0, .ref (P.2.1 1)), (1, .int x1)] := hl
  have hL4 : ∀ (x1 : Int32) (n : Nat) (x2 : Int32) (x3 : Int32), jl2 (B_X0_vowelsOn_4 w x1) n x2 x3 = some r → ∀ (H : Heap) (locs : List Loc) (ls : Array Slot), St P s w H locs → lv_has ls 4 [(0, .ref (P.2.1 1)), (1, .int x1), (2, .int x2), (3, .int x3)] → W p l e (rmU 3 0 0) s m args below meth c H locs 0 0 (QI P (some .int) r w below args s) (F0 m 4 ls []) := by
    intro x1
    intro n
    induction n with
    | zero =>
      intro x2 x3 h
      cases h
    | succ n ih4 =>
      intro x2 x3 h H locs ls hP hl
      replace h : B_X0_vowelsOn_4 w x1 (jl2 (B_X0_vowelsOn_4 w x1) n) x2 x3 = some r := h
      revert h ih4
      generalize jl2 (B_X0_vowelsOn_4 w x1) n = k4
      intro ih4 h
      have hB25 : ∀ (x2 : Int32) (x3 : Int32), B_X0_vowelsOn_25 k4 w x1 x2 x3 = some r → ∀ (H : Heap) (locs : List Loc) (ls : Array Slot), St P s w H locs → lv_has ls 4 [(0, .ref (P.2.1 1)), (1, .int x1), (2, .int x2), (3, .int x3)] → W p l e (rmU 3 0 0) s m args below meth c H locs 0 0 (QI P (some .int) r w below args s) (F0 m 25 ls []) := by
        intro x2 x3 h H locs ls hP hl
        unfold B_X0_vowelsOn_25 at h
        refine lv_iinc (v := (x3 + 1)) (lv' := [(3, .int (x3 + 1)), (0, .ref (P.2.1 1)), (1, .int x1), (2, .int x2)]) hx hb dX0_vowelsOn_25 hl (k := 3) rfl rfl (by decide) rfl (fun ls hl => ?_)
        refine lv_goto (tgt := 4) hx hb dX0_vowelsOn_28 (by decide) ?_
        exact ih4 _ _ h _ _ _ hP (lv_sub hl [1, 2, 3, 0] rfl)
      unfold B_X0_vowelsOn_4 at h
      refine lv_iload_n hx hb dX0_vowelsOn_4 rfl (lv_at hl 3 rfl) ?_
      refine lv_aload_n hx hb dX0_vowelsOn_5 rfl (lv_at hl 0 rfl) ?_
      refine lv_iload_n hx hb dX0_vowelsOn_6 rfl (lv_at hl 1 rfl) ?_
      refine vu_i hP (vu_V S hF hP (h := 1) (hlt _ (by decide)) rfl (by decide) rfl (c_X0_lineLength l P hA hn w x1) ok_X0_lineLength ml_X0_79 ⟨Nat.le_of_ble_eq_true rfl, Nat.le_of_ble_eq_true rfl⟩ rfl hl.1 rfl (Nat.le_of_ble_eq_true rfl) dX0_vowelsOn_7 ⟨Nat.le_of_ble_eq_true rfl, Nat.le_of_ble_eq_true rfl⟩) (fun H locs ho1 hP => ?_)
      refine lv_icmp_ge (tgt := 31) hx hb dX0_vowelsOn_10 (by decide) (fun c3 => ?_) (fun c3 => ?_)
      · rw [if_pos c3] at h
        refine lv_iload_n hx hb dX0_vowelsOn_31 rfl (lv_at hl 2 rfl) ?_
        obtain rfl := Option.some.inj h
        exact ve_i (v := x2) S hF hP hr hk rfl dX0_vowelsOn_32
      · rw [if_neg c3] at h
        refine lv_aload_n hx hb dX0_vowelsOn_13 rfl (lv_at hl 0 rfl) ?_
        refine lv_iload_n hx hb dX0_vowelsOn_14 rfl (lv_at hl 1 rfl) ?_
        refine lv_iload_n hx hb dX0_vowelsOn_15 rfl (lv_at hl 3 rfl) ?_
        refine vu_i hP (vu_V S hF hP (h := 1) (hlt _ (by decide)) rfl (by decide) rfl (c_X0_isVowelOn l P hA hn w x1 x3) ok_X0_isVowelOn ml_X0_155 ⟨Nat.le_of_ble_eq_true rfl, Nat.le_of_ble_eq_true rfl⟩ rfl hl.1 rfl (Nat.le_of_ble_eq_true rfl) dX0_vowelsOn_16 ⟨Nat.le_of_ble_eq_true rfl, Nat.le_of_ble_eq_true rfl⟩) (fun H locs ho2 hP => ?_)
        refine lv_if_eq (tgt := 25) hx hb dX0_vowelsOn_19 (by decide) (fun c4 => ?_) (fun c4 => ?_)
        · rw [if_pos c4] at h
          exact hB25 _ _ h _ _ _ hP (lv_sub hl [0, 1, 2, 3] rfl)
        · rw [if_neg c4] at h
          refine lv_iinc (v := (x2 + 1)) (lv' := [(2, .int (x2 + 1)), (0, .ref (P.2.1 1)), (1, .int x1), (3, .int x3)]) hx hb dX0_vowelsOn_22 hl (k := 2) rfl rfl (by decide) rfl (fun ls hl => ?_)
          exact hB25 _ _ h _ _ _ hP (lv_sub hl [1, 2, 0, 3] rfl)
  unfold F_X0_vowelsOn at h
  refine lv_iconst (v := 0) hx hb dX0_vowelsOn_0 (by decide) ?_
  refine lv_istore_n (lv' := [(2, .int 0), (0, .ref (P.2.1 1)), (1, .int x1)]) hx hb dX0_vowelsOn_1 rfl hl (by decide) rfl (fun ls hl => ?_)
  refine lv_iconst (v := 0) hx hb dX0_vowelsOn_2 (by decide) ?_
  refine lv_istore_n (lv' := [(3, .int 0), (2, .int 0), (0, .ref (P.2.1 1)), (1, .int x1)]) hx hb dX0_vowelsOn_3 rfl hl (by decide) rfl (fun ls hl => ?_)
  exact hL4 _ fu _ _ h _ _ _ hP (lv_sub hl [2, 3, 1, 0] rfl)
set_option maxRecDepth 100000 in
set_option maxHeartbeats 4000000 in
theorem c_X0_vowels (l : Launch) (P : Pl) (hA : Adr P) (hn : 26 ≤ P.2.2.2.1) (w : Wo) {r : Int32} (h : F_X0_vowels w = some r) : CtI l P yX0_vowels cX0_vowels 3 (some .int) 4 [.ref (P.2.1 1)] w r w := by
  have hlt : ∀ h, h < 26 → h < P.2.2.2.1 := fun h q => Nat.lt_of_lt_of_le q hn
  refine vs_met hA (by decide +kernel) (Nat.le_of_ble_eq_true rfl) (fun p e s m args below meth c ls S hF hP hl hr hk => ?_)
  have hx := S.1
  have hb := S.2.1
  replace hl : lv_has ls 3 [(0, .ref (P.2.1 1))] := hl
  have hL4 : ∀ (n : Nat) (x1 : Int32) (x2 : Int32), jl2 (B_X0_vowels_4 w) n x1 x2 = some r → ∀ (H : Heap) (locs : List Loc) (ls : Array Slot), St P s w H locs → lv_has ls 3 [(0, .ref (P.2.1 1)), (1, .int x1), (2, .int x2)] → W p l e (rmU 4 0 0) s m args below meth c H locs 0 0 (QI P (some .int) r w below args s) (F0 m 4 ls []) := by
    intro n
    induction n with
    | zero =>
      intro x1 x2 h
      cases h
    | succ n ih4 =>
      intro x1 x2 h H locs ls hP hl
      replace h : B_X0_vowels_4 w (jl2 (B_X0_vowels_4 w) n) x1 x2 = some r := h
      revert h ih4
      generalize jl2 (B_X0_vowels_4 w) n = k4
      intro ih4 h
      unfold B_X0_vowels_4 at h
      refine lv_iload_n hx hb dX0_vowels_4 rfl (lv_at hl 2 rfl) ?_
      refine lv_aload_n hx hb dX0_vowels_5 rfl (lv_at hl 0 rfl) ?_
      refine vt_getI S hF hP (k := 0) (ci := 0) 1 (hlt _ (by decide)) rfl (by decide) rfl (by decide) rfl (inC_X0 _) (List.mem_cons_of_mem _ fl_X0_9) dX0_vowels_6 ?_
      refine lv_icmp_ge (tgt := 26) hx hb dX0_vowels_9 (by decide) (fun c3 => ?_) (fun c3 => ?_)
      · rw [if_pos c3] at h
        refine lv_iload_n hx hb dX0_vowels_26 rfl (lv_at hl 1 rfl) ?_
        obtain rfl := Option.some.inj h
        exact ve_i (v := x1) S hF hP hr hk rfl dX0_vowels_27
      · rw [if_neg c3] at h
        refine lv_iload_n hx hb dX0_vowels_12 rfl (lv_at hl 1 rfl) ?_
        refine lv_aload_n hx hb dX0_vowels_13 rfl (lv_at hl 0 rfl) ?_
        refine lv_iload_n hx hb dX0_vowels_14 rfl (lv_at hl 2 rfl) ?_
        obtain ⟨q1, hq1, h⟩ := ob h
        refine vu_i hP (vu_V S hF hP (h := 1) (hlt _ (by decide)) rfl (by decide) rfl (c_X0_vowelsOn l P hA hn w x2 hq1) ok_X0_vowelsOn ml_X0_159 ⟨Nat.le_of_ble_eq_true rfl, Nat.le_of_ble_eq_true rfl⟩ rfl hl.1 rfl (Nat.le_of_ble_eq_true rfl) dX0_vowels_15 ⟨Nat.le_of_ble_eq_true rfl, Nat.le_of_ble_eq_true rfl⟩) (fun H locs ho2 hP => ?_)
        refine lv_iadd hx hb dX0_vowels_18 ?_
        refine lv_istore_n (lv' := [(1, .int (x1 + q1)), (0, .ref (P.2.1 1)), (2, .int x2)]) hx hb dX0_vowels_19 rfl hl (by decide) rfl (fun ls hl => ?_)
        refine lv_iinc (v := (x2 + 1)) (lv' := [(2, .int (x2 + 1)), (1, .int (x1 + q1)), (0, .ref (P.2.1 1))]) hx hb dX0_vowels_20 hl (k := 2) rfl rfl (by decide) rfl (fun ls hl => ?_)
        refine lv_goto (tgt := 4) hx hb dX0_vowels_23 (by decide) ?_
        exact ih4 _ _ h _ _ _ hP (lv_sub hl [2, 1, 0] rfl)
  unfold F_X0_vowels at h
  refine lv_iconst (v := 0) hx hb dX0_vowels_0 (by decide) ?_
  refine lv_istore_n (lv' := [(1, .int 0), (0, .ref (P.2.1 1))]) hx hb dX0_vowels_1 rfl hl (by decide) rfl (fun ls hl => ?_)
  refine lv_iconst (v := 0) hx hb dX0_vowels_2 (by decide) ?_
  refine lv_istore_n (lv' := [(2, .int 0), (1, .int 0), (0, .ref (P.2.1 1))]) hx hb dX0_vowels_3 rfl hl (by decide) rfl (fun ls hl => ?_)
  exact hL4 fu _ _ h _ _ _ hP (lv_sub hl [2, 1, 0] rfl)
set_option maxRecDepth 100000 in
set_option maxHeartbeats 4000000 in
theorem c_X5_boardOf (l : Launch) (P : Pl) (hA : Adr P) (hn : 26 ≤ P.2.2.2.1) (hst : l.stackTraces = false) (w : Wo) (x1 : Int32) {r : (Nat × Wo) ⊕ (Int32 × Wo)} (h : F_X5_boardOf w x1 = some r) : CxI l P yX5_boardOf cX5_boardOf 2 (some .int) 6 1 [.ref (P.2.1 0), .int x1] w r := by
  have hlt : ∀ h, h < 26 → h < P.2.2.2.1 := fun h q => Nat.lt_of_lt_of_le q hn
  refine vs_vx hA (by decide +kernel) (Nat.le_of_ble_eq_true rfl) (fun p e s m args below meth c ls S hF hP hl hr hk hxt => ?_)
  have hx := S.1
  have hb := S.2.1
  replace hl : lv_has ls 2 [(0, .ref (P.2.1 0)), (1, .int x1)] := hl
  unfold F_X5_boardOf at h
  refine lv_iload_n hx hb dX5_boardOf_0 rfl (lv_at hl 1 rfl) ?_
  by_cases c10 : x1 = 0
  · rw [if_pos c10] at h
    refine lv_tableIn (off := 43) (tgt := 44) hx hb dX5_boardOf_1 (by rw [c10]; decide) (by rw [c10]; decide) (by rw [c10]; rfl) (by decide) ?_
    refine lv_aload_n hx hb dX5_boardOf_44 rfl (lv_at hl 0 rfl) ?_
    refine vt_getR (r := 1) S hF hP (k := 0) (ci := 5) 0 (hlt _ (by decide)) rfl (by decide) rfl (by decide) rfl rfl (inC_X5 _) (List.mem_cons_of_mem _ fl_X5_12) dX5_boardOf_45 ?_
    refine vt_getI S hF hP (k := 0) (ci := 0) 1 (hlt _ (by decide)) rfl (by decide) rfl (by decide) rfl (inC_X0 _) (List.mem_cons_of_mem _ fl_X5_153) dX5_boardOf_48 ?_
    obtain rfl := Option.some.inj h
    exact ve_xi (v := (gI w 1 0)) S hF hP hr hk rfl (by decide) (by decide) dX5_boardOf_51
  rw [if_neg c10] at h
  by_cases c11 : x1 = 1
  · rw [if_pos c11] at h
    refine lv_tableIn (off := 51) (tgt := 52) hx hb dX5_boardOf_1 (by rw [c11]; decide) (by rw [c11]; decide) (by rw [c11]; rfl) (by decide) ?_
    refine lv_aload_n hx hb dX5_boardOf_52 rfl (lv_at hl 0 rfl) ?_
    refine vt_getR (r := 1) S hF hP (k := 0) (ci := 5) 0 (hlt _ (by decide)) rfl (by decide) rfl (by decide) rfl rfl (inC_X5 _) (List.mem_cons_of_mem _ fl_X5_12) dX5_boardOf_53 ?_
    refine vt_getI S hF hP (k := 1) (ci := 0) 1 (hlt _ (by decide)) rfl (by decide) rfl (by decide) rfl (inC_X0 _) (List.mem_cons_of_mem _ fl_X5_156) dX5_boardOf_56 ?_
    obtain rfl := Option.some.inj h
    exact ve_xi (v := (gI w 1 1)) S hF hP hr hk rfl (by decide) (by decide) dX5_boardOf_59
  rw [if_neg c11] at h
  by_cases c12 : x1 = 2
  · rw [if_pos c12] at h
    refine lv_tableIn (off := 59) (tgt := 60) hx hb dX5_boardOf_1 (by rw [c12]; decide) (by rw [c12]; decide) (by rw [c12]; rfl) (by decide) ?_
    refine lv_aload_n hx hb dX5_boardOf_60 rfl (lv_at hl 0 rfl) ?_
    refine vt_getR (r := 1) S hF hP (k := 0) (ci := 5) 0 (hlt _ (by decide)) rfl (by decide) rfl (by decide) rfl rfl (inC_X5 _) (List.mem_cons_of_mem _ fl_X5_12) dX5_boardOf_61 ?_
    refine vu_i hP (vu_V S hF hP (h := 1) (hlt _ (by decide)) rfl (by decide) rfl (c_X0_turns l P hA hn w) ok_X0_turns ml_X5_159 ⟨Nat.le_of_ble_eq_true rfl, Nat.le_of_ble_eq_true rfl⟩ rfl hl.1 rfl (Nat.le_of_ble_eq_true rfl) dX5_boardOf_64 ⟨Nat.le_of_ble_eq_true rfl, Nat.le_of_ble_eq_true rfl⟩) (fun H locs ho1 hP => ?_)
    obtain rfl := Option.some.inj h
    exact ve_xi (v := (F_X0_turns w)) S hF hP hr hk rfl (by decide) (by decide) dX5_boardOf_67
  rw [if_neg c12] at h
  by_cases c13 : x1 = 3
  · rw [if_pos c13] at h
    refine lv_tableIn (off := 67) (tgt := 68) hx hb dX5_boardOf_1 (by rw [c13]; decide) (by rw [c13]; decide) (by rw [c13]; rfl) (by decide) ?_
    refine lv_aload_n hx hb dX5_boardOf_68 rfl (lv_at hl 0 rfl) ?_
    refine vt_getR (r := 1) S hF hP (k := 0) (ci := 5) 0 (hlt _ (by decide)) rfl (by decide) rfl (by decide) rfl rfl (inC_X5 _) (List.mem_cons_of_mem _ fl_X5_12) dX5_boardOf_69 ?_
    refine vu_i hP (vu_V S hF hP (h := 1) (hlt _ (by decide)) rfl (by decide) rfl (c_X0_turns l P hA hn w) ok_X0_turns ml_X5_159 ⟨Nat.le_of_ble_eq_true rfl, Nat.le_of_ble_eq_true rfl⟩ rfl hl.1 rfl (Nat.le_of_ble_eq_true rfl) dX5_boardOf_72 ⟨Nat.le_of_ble_eq_true rfl, Nat.le_of_ble_eq_true rfl⟩) (fun H locs ho2 hP => ?_)
    refine lv_iconst (v := 2) hx hb dX5_boardOf_75 (by decide) ?_
    refine lv_aload_n hx hb dX5_boardOf_76 rfl (lv_at hl 0 rfl) ?_
    refine vt_getR (r := 1) S hF hP (k := 0) (ci := 5) 0 (hlt _ (by decide)) rfl (by decide) rfl (by decide) rfl rfl (inC_X5 _) (List.mem_cons_of_mem _ fl_X5_12) dX5_boardOf_77 ?_
    refine vu_i hP (vu_V S hF hP (h := 1) (hlt _ (by decide)) rfl (by decide) rfl (c_X0_barredLines l P hA hn w) ok_X0_barredLines ml_X5_162 ⟨Nat.le_of_ble_eq_true rfl, Nat.le_of_ble_eq_true rfl⟩ rfl hl.1 rfl (Nat.le_of_ble_eq_true rfl) dX5_boardOf_80 ⟨Nat.le_of_ble_eq_true rfl, Nat.le_of_ble_eq_true rfl⟩) (fun H locs ho3 hP => ?_)
    refine lv_imul hx hb dX5_boardOf_83 ?_
    refine lv_isub hx hb dX5_boardOf_84 ?_
    obtain rfl := Option.some.inj h
    exact ve_xi (v := ((F_X0_turns w) - ((2 : Int32) * (F_X0_barredLines w)))) S hF hP hr hk rfl (by decide) (by decide) dX5_boardOf_85
  rw [if_neg c13] at h
  by_cases c14 : x1 = 4
  · rw [if_pos c14] at h
    refine lv_tableIn (off := 85) (tgt := 86) hx hb dX5_boardOf_1 (by rw [c14]; decide) (by rw [c14]; decide) (by rw [c14]; rfl) (by decide) ?_
    refine lv_aload_n hx hb dX5_boardOf_86 rfl (lv_at hl 0 rfl) ?_
    refine vt_getR (r := 1) S hF hP (k := 0) (ci := 5) 0 (hlt _ (by decide)) rfl (by decide) rfl (by decide) rfl rfl (inC_X5 _) (List.mem_cons_of_mem _ fl_X5_12) dX5_boardOf_87 ?_
    obtain ⟨q4, hq4, h⟩ := ob h
    refine vu_i hP (vu_V S hF hP (h := 1) (hlt _ (by decide)) rfl (by decide) rfl (c_X0_unlikeLetters l P hA hn w hq4) ok_X0_unlikeLetters ml_X5_165 ⟨Nat.le_of_ble_eq_true rfl, Nat.le_of_ble_eq_true rfl⟩ rfl hl.1 rfl (Nat.le_of_ble_eq_true rfl) dX5_boardOf_90 ⟨Nat.le_of_ble_eq_true rfl, Nat.le_of_ble_eq_true rfl⟩) (fun H locs ho5 hP => ?_)
    obtain rfl := Option.some.inj h
    exact ve_xi (v := q4) S hF hP hr hk rfl (by decide) (by decide) dX5_boardOf_93
  rw [if_neg c14] at h
  by_cases c15 : x1 = 5
  · rw [if_pos c15] at h
    refine lv_tableIn (off := 93) (tgt := 94) hx hb dX5_boardOf_1 (by rw [c15]; decide) (by rw [c15]; decide) (by rw [c15]; rfl) (by decide) ?_
    refine lv_aload_n hx hb dX5_boardOf_94 rfl (lv_at hl 0 rfl) ?_
    refine vt_getR (r := 1) S hF hP (k := 0) (ci := 5) 0 (hlt _ (by decide)) rfl (by decide) rfl (by decide) rfl rfl (inC_X5 _) (List.mem_cons_of_mem _ fl_X5_12) dX5_boardOf_95 ?_
    obtain ⟨q6, hq6, h⟩ := ob h
    refine vu_i hP (vu_V S hF hP (h := 1) (hlt _ (by decide)) rfl (by decide) rfl (c_X0_vowels l P hA hn w hq6) ok_X0_vowels ml_X5_168 ⟨Nat.le_of_ble_eq_true rfl, Nat.le_of_ble_eq_true rfl⟩ rfl hl.1 rfl (Nat.le_of_ble_eq_true rfl) dX5_boardOf_98 ⟨Nat.le_of_ble_eq_true rfl, Nat.le_of_ble_eq_true rfl⟩) (fun H locs ho7 hP => ?_)
    obtain rfl := Option.some.inj h
    exact ve_xi (v := q6) S hF hP hr hk rfl (by decide) (by decide) dX5_boardOf_101
  rw [if_neg c15] at h
  by_cases c16 : x1 = 6
  · rw [if_pos c16] at h
    refine lv_tableIn (off := 101) (tgt := 102) hx hb dX5_boardOf_1 (by rw [c16]; decide) (by rw [c16]; decide) (by rw [c16]; rfl) (by decide) ?_
    refine lv_aload_n hx hb dX5_boardOf_102 rfl (lv_at hl 0 rfl) ?_
    refine vt_getR (r := 1) S hF hP (k := 0) (ci := 5) 0 (hlt _ (by decide)) rfl (by decide) rfl (by decide) rfl rfl (inC_X5 _) (List.mem_cons_of_mem _ fl_X5_12) dX5_boardOf_103 ?_
    refine lv_aload_n hx hb dX5_boardOf_106 rfl (lv_at hl 0 rfl) ?_
    refine vt_getR (r := 1) S hF hP (k := 0) (ci := 5) 0 (hlt _ (by decide)) rfl (by decide) rfl (by decide) rfl rfl (inC_X5 _) (List.mem_cons_of_mem _ fl_X5_12) dX5_boardOf_107 ?_
    refine vt_getL S hF hP (k := 3) (ci := 0) 1 (hlt _ (by decide)) rfl (by decide) rfl (by decide) rfl (inC_X0 _) (List.mem_cons_of_mem _ fl_X5_99) dX5_boardOf_110 ?_
    refine lv_bipush (v := 12) hx hb dX5_boardOf_113 (by decide) ?_
    obtain ⟨q8, hq8, h⟩ := ob h
    refine vu_i hP (vu_V S hF hP (h := 1) (hlt _ (by decide)) rfl (by decide) rfl (c_X0_count l P hA hn w (gL w 1 3) 12 hq8) ok_X0_count ml_X5_171 ⟨Nat.le_of_ble_eq_true rfl, Nat.le_of_ble_eq_true rfl⟩ rfl hl.1 rfl (Nat.le_of_ble_eq_true rfl) dX5_boardOf_115 ⟨Nat.le_of_ble_eq_true rfl, Nat.le_of_ble_eq_true rfl⟩) (fun H locs ho9 hP => ?_)
    obtain rfl := Option.some.inj h
    exact ve_xi (v := q8) S hF hP hr hk rfl (by decide) (by decide) dX5_boardOf_118
  rw [if_neg c16] at h
  refine lv_tableOut (tgt := 119) hx hb dX5_boardOf_1 (sw_out (fun i i1 i2 => ?_)) (by decide) ?_
  · have i3 : i = 0 ∨ i = 1 ∨ i = 2 ∨ i = 3 ∨ i = 4 ∨ i = 5 ∨ i = 6 := by omega
    rcases i3 with rfl | rfl | rfl | rfl | rfl | rfl | rfl
    · exact c10
    · exact c11
    · exact c12
    · exact c13
    · exact c14
    · exact c15
    · exact c16
  obtain rfl := Option.some.inj h
  exact ve_thr hst S hF hP (fun _ z => List.mem_cons_of_mem _ z) (is := 176) (text := "what is not from 0 to 6") rfl th_174_178.1 th_174_178.2.1 th_174_178.2.2.1 (by decide +kernel) th_174_178.2.2.2.1 th_174_178.2.2.2.2 hl.1 hk hxt dX5_boardOf_119 dX5_boardOf_122 dX5_boardOf_123 dX5_boardOf_125 dX5_boardOf_128 ⟨Nat.le_of_ble_eq_true rfl, Nat.le_of_ble_eq_true rfl, Nat.le_of_ble_eq_true rfl, Nat.le_of_ble_eq_true rfl⟩ (by decide) (by decide)
set_option maxRecDepth 100000 in
set_option maxHeartbeats 4000000 in
theorem s_X5_fewestFrom (l : Launch) (P : Pl) (hA : Adr P) (hn : 26 ≤ P.2.2.2.1) (d : Nat) (hd : 8 ≤ d) (w : Wo) (rc : Int64 → Int32 → Option (Int32)) (hrc : ∀ (x1 : Int64) (x3 : Int32) (r : Int32), rc x1 x3 = some r → CtI l P yX5_fewestFrom cX5_fewestFrom 6 (some .int) d [.ref (P.2.1 1), .long x1, .int x3] w r w) (x1 : Int64) (x3 : Int32) {r : Int32} (h : S_X5_fewestFrom rc w x1 x3 = some r) : CtI l P yX5_fewestFrom cX5_fewestFrom 6 (some .int) (d + 1) [.ref (P.2.1 1), .long x1, .int x3] w r w := by
  have hlt : ∀ h, h < 26 → h < P.2.2.2.1 := fun h q => Nat.lt_of_lt_of_le q hn
  refine vs_met hA (by decide +kernel) (Nat.le_of_ble_eq_true rfl) (fun p e s m args below meth c ls S hF hP hl hr hk => ?_)
  have hx := S.1
  have hb := S.2.1
  replace hl : lv_has ls 6 [(0, .ref (P.2.1 1)), (1, .long x1), (3, .int x3)] := hl
  have hL24 : ∀ (x1 : Int64) (x3 : Int32) (n : Nat) (x4 : Int32) (x5 : Int32), jl2 (B_X5_fewestFrom_24 rc w x1 x3) n x4 x5 = some r → ∀ (H : Heap) (locs : List Loc) (ls : Array Slot), St P s w H locs → lv_has ls 6 [(0, .ref (P.2.1 1)), (1, .long x1), (3, .int x3), (4, .int x4), (5, .int x5)] → W p l e (rmU (d + 1) 0 0) s m args below meth c H locs 0 0 (QI P (some .int) r w below args s) (F0 m 24 ls []) := by
    intro x1 x3
    intro n
    induction n with
    | zero =>
      intro x4 x5 h
      cases h
    | succ n ih24 =>
      intro x4 x5 h H locs ls hP hl
      replace h : B_X5_fewestFrom_24 rc w x1 x3 (jl2 (B_X5_fewestFrom_24 rc w x1 x3) n) x4 x5 = some r := h
      revert h ih24
      generalize jl2 (B_X5_fewestFrom_24 rc w x1 x3) n = k24
      intro ih24 h
      have hB63 : ∀ (x4 : Int32) (x5 : Int32), B_X5_fewestFrom_63 k24 rc w x1 x3 x4 x5 = some r → ∀ (H : Heap) (locs : List Loc) (ls : Array Slot), St P s w H locs → lv_has ls 6 [(0, .ref (P.2.1 1)), (1, .long x1), (3, .int x3), (4, .int x4), (5, .int x5)] → W p l e (rmU (d + 1) 0 0) s m args below meth c H locs 0 0 (QI P (some .int) r w below args s) (F0 m 63 ls []) := by
        intro x4 x5 h H locs ls hP hl
        unfold B_X5_fewestFrom_63 at h
        refine lv_iinc (v := (x5 + 1)) (lv' := [(5, .int (x5 + 1)), (0, .ref (P.2.1 1)), (1, .long x1), (3, .int x3), (4, .int x4)]) hx hb dX5_fewestFrom_63 hl (k := 4) rfl rfl (by decide) rfl (fun ls hl => ?_)
        refine lv_goto (tgt := 24) hx hb dX5_fewestFrom_66 (by decide) ?_
        exact ih24 _ _ h _ _ _ hP (lv_sub hl [1, 2, 3, 4, 0] rfl)
      unfold B_X5_fewestFrom_24 at h
      refine lv_iload hx hb dX5_fewestFrom_24 (lv_at hl 4 rfl) ?_
      refine lv_aload_n hx hb dX5_fewestFrom_26 rfl (lv_at hl 0 rfl) ?_
      refine vu_i hP (vu_V S hF hP (h := 1) (hlt _ (by decide)) rfl (by decide) rfl (c_X0_turns l P hA hn w) ok_X0_turns ml_X5_159 ⟨(by show _ ≤ d + 1; omega), (by show _ ≤ 40 * (d + 1); omega)⟩ rfl hl.1 rfl (Nat.le_of_ble_eq_true rfl) dX5_fewestFrom_27 ⟨Nat.le_of_ble_eq_true rfl, Nat.le_of_ble_eq_true rfl⟩) (fun H locs ho3 hP => ?_)
      refine lv_icmp_ge (tgt := 69) hx hb dX5_fewestFrom_30 (by decide) (fun c9 => ?_) (fun c9 => ?_)
      · rw [if_pos c9] at h
        refine lv_iload hx hb dX5_fewestFrom_69 (lv_at hl 3 rfl) ?_
        obtain rfl := Option.some.inj h
        exact ve_i (v := x4) S hF hP hr hk rfl dX5_fewestFrom_71
      · rw [if_neg c9] at h
        refine lv_aload_n hx hb dX5_fewestFrom_33 rfl (lv_at hl 0 rfl) ?_
        refine lv_iload hx hb dX5_fewestFrom_34 (lv_at hl 4 rfl) ?_
        obtain ⟨q4, hq4, h⟩ := ob h
        refine vu_i hP (vu_V S hF hP (h := 1) (hlt _ (by decide)) rfl (by decide) rfl (c_X0_canTurn l P hA hn w x5 hq4) ok_X0_canTurn ml_X5_353 ⟨(by show _ ≤ d + 1; omega), (by show _ ≤ 40 * (d + 1); omega)⟩ rfl hl.1 rfl (Nat.le_of_ble_eq_true rfl) dX5_fewestFrom_36 ⟨Nat.le_of_ble_eq_true rfl, Nat.le_of_ble_eq_true rfl⟩) (fun H locs ho5 hP => ?_)
        refine lv_if_eq (tgt := 63) hx hb dX5_fewestFrom_39 (by decide) (fun c10 => ?_) (fun c10 => ?_)
        · rw [if_pos c10] at h
          exact hB63 _ _ h _ _ _ hP (lv_sub hl [0, 1, 2, 3, 4] rfl)
        · rw [if_neg c10] at h
          refine lv_iload hx hb dX5_fewestFrom_42 (lv_at hl 3 rfl) ?_
          refine lv_aload_n hx hb dX5_fewestFrom_44 rfl (lv_at hl 0 rfl) ?_
          refine lv_aload_n hx hb dX5_fewestFrom_45 rfl (lv_at hl 0 rfl) ?_
          refine lv_lload_n hx hb dX5_fewestFrom_46 rfl (lv_at hl 1 rfl) ?_
          refine lv_iload hx hb dX5_fewestFrom_47 (lv_at hl 4 rfl) ?_
          obtain ⟨q6, hq6, h⟩ := ob h
          refine vu_l hP (vu_V S hF hP (h := 1) (hlt _ (by decide)) rfl (by decide) rfl (c_X0_turned l P hA hn w x1 x5 hq6) ok_X0_turned ml_X5_206 ⟨(by show _ ≤ d + 1; omega), (by show _ ≤ 40 * (d + 1); omega)⟩ rfl hl.1 rfl (Nat.le_of_ble_eq_true rfl) dX5_fewestFrom_49 ⟨Nat.le_of_ble_eq_true rfl, Nat.le_of_ble_eq_true rfl⟩) (fun H locs hP => ?_)
          refine lv_iload_n hx hb dX5_fewestFrom_52 rfl (lv_at hl 2 rfl) ?_
          refine lv_iconst (v := 1) hx hb dX5_fewestFrom_53 (by decide) ?_
          refine lv_iadd hx hb dX5_fewestFrom_54 ?_
          obtain ⟨q7, hq7, h⟩ := ob h
          refine vu_i hP (vu_S S hF hP (hrc q6 (x3 + (1 : Int32)) _ hq7) ok_X5_fewestFrom ml_X5_384 ⟨(by show _ ≤ d + 1; omega), (by show _ ≤ 40 * (d + 1); omega)⟩ rfl hl.1 rfl (Nat.le_of_ble_eq_true rfl) dX5_fewestFrom_55 ⟨Nat.le_of_ble_eq_true rfl, Nat.le_of_ble_eq_true rfl⟩) (fun H locs ho8 hP => ?_)
          refine va_mmin hx hb (S.2.2.1.trans hl.1.symm) S.2.2.2.1 (S.2.2.2.2 _ (List.mem_cons_of_mem _ lib_X5_391.1)) (S.2.2.2.2 _ (List.mem_cons_of_mem _ lib_X5_391.2.1)) (S.2.2.2.2 _ (List.mem_cons_of_mem _ lib_X5_391.2.2.1)) (S.2.2.2.2 _ (List.mem_cons_of_mem _ lib_X5_391.2.2.2)) (by show 1 ≤ d + 1; omega) (by show 0 + 13 ≤ 40 * (d + 1); omega) (Nat.zero_le _) (Nat.zero_le _) dX5_fewestFrom_58 ?_
          refine lv_istore (lv' := [(4, .int (jmin x4 q7)), (0, .ref (P.2.1 1)), (1, .long x1), (3, .int x3), (5, .int x5)]) hx hb dX5_fewestFrom_61 hl (by decide) rfl (fun ls hl => ?_)
          exact hB63 _ _ h _ _ _ hP (lv_sub hl [1, 2, 3, 0, 4] rfl)
  unfold S_X5_fewestFrom at h
  refine lv_aload_n hx hb dX5_fewestFrom_0 rfl (lv_at hl 0 rfl) ?_
  refine lv_lload_n hx hb dX5_fewestFrom_1 rfl (lv_at hl 1 rfl) ?_
  obtain ⟨q1, hq1, h⟩ := ob h
  refine vu_i hP (vu_V S hF hP (h := 1) (hlt _ (by decide)) rfl (by decide) rfl (c_X0_isGoal l P hA hn w x1 hq1) ok_X0_isGoal ml_X5_388 ⟨(by show _ ≤ d + 1; omega), (by show _ ≤ 40 * (d + 1); omega)⟩ rfl hl.1 rfl (Nat.le_of_ble_eq_true rfl) dX5_fewestFrom_2 ⟨Nat.le_of_ble_eq_true rfl, Nat.le_of_ble_eq_true rfl⟩) (fun H locs ho2 hP => ?_)
  refine lv_if_eq (tgt := 10) hx hb dX5_fewestFrom_5 (by decide) (fun c11 => ?_) (fun c11 => ?_)
  · rw [if_pos c11] at h
    refine lv_iconst (v := 4) hx hb dX5_fewestFrom_10 (by decide) ?_
    refine lv_istore (lv' := [(4, .int 4), (0, .ref (P.2.1 1)), (1, .long x1), (3, .int x3)]) hx hb dX5_fewestFrom_11 hl (by decide) rfl (fun ls hl => ?_)
    refine lv_iload_n hx hb dX5_fewestFrom_13 rfl (lv_at hl 3 rfl) ?_
    refine lv_iconst (v := 3) hx hb dX5_fewestFrom_14 (by decide) ?_
    refine lv_icmp_lt (tgt := 21) hx hb dX5_fewestFrom_15 (by decide) (fun c12 => ?_) (fun c12 => ?_)
    · rw [if_pos c12] at h
      refine lv_iconst (v := 0) hx hb dX5_fewestFrom_21 (by decide) ?_
      refine lv_istore (lv' := [(5, .int 0), (4, .int 4), (0, .ref (P.2.1 1)), (1, .long x1), (3, .int x3)]) hx hb dX5_fewestFrom_22 hl (by decide) rfl (fun ls hl => ?_)
      exact hL24 _ _ fu _ _ h _ _ _ hP (lv_sub hl [2, 3, 4, 1, 0] rfl)
    · rw [if_neg c12] at h
      refine lv_iload hx hb dX5_fewestFrom_18 (lv_at hl 0 rfl) ?_
      obtain rfl := Option.some.inj h
      exact ve_i (v := 4) S hF hP hr hk rfl dX5_fewestFrom_20
  · rw [if_neg c11] at h
    refine lv_iload_n hx hb dX5_fewestFrom_8 rfl (lv_at hl 2 rfl) ?_
    obtain rfl := Option.some.inj h
    exact ve_i (v := x3) S hF hP hr hk rfl dX5_fewestFrom_9
theorem c_X5_fewestFrom (l : Launch) (P : Pl) (hA : Adr P) (hn : 26 ≤ P.2.2.2.1) (w : Wo) : ∀ (n : Nat) (x1 : Int64) (x3 : Int32) (r : Int32), F_X5_fewestFrom w n x1 x3 = some r → CtI l P yX5_fewestFrom cX5_fewestFrom 6 (some .int) (8 + n) [.ref (P.2.1 1), .long x1, .int x3] w r w
  | 0, _, _, _, h => by cases h
  | n + 1, x1, x3, _, h => s_X5_fewestFrom l P hA hn (8 + n) (Nat.le_add_right 8 n) w (F_X5_fewestFrom w n) (fun x1 x3 r h => c_X5_fewestFrom l P hA hn w n x1 x3 r h) x1 x3 h
set_option maxRecDepth 100000 in
set_option maxHeartbeats 4000000 in
theorem c_X5_fewestByAll (l : Launch) (P : Pl) (hA : Adr P) (hn : 26 ≤ P.2.2.2.1) (w : Wo) {r : Int32} (h : F_X5_fewestByAll w = some r) : CtI l P yX5_fewestByAll cX5_fewestByAll 1 (some .int) 14 [.ref (P.2.1 0)] w r w := by
  have hlt : ∀ h, h < 26 → h < P.2.2.2.1 := fun h q => Nat.lt_of_lt_of_le q hn
  refine vs_met hA (by decide +kernel) (Nat.le_of_ble_eq_true rfl) (fun p e s m args below meth c ls S hF hP hl hr hk => ?_)
  have hx := S.1
  have hb := S.2.1
  replace hl : lv_has ls 1 [(0, .ref (P.2.1 0))] := hl
  unfold F_X5_fewestByAll at h
  refine lv_aload_n hx hb dX5_fewestByAll_0 rfl (lv_at hl 0 rfl) ?_
  refine vt_getR (r := 1) S hF hP (k := 0) (ci := 5) 0 (hlt _ (by decide)) rfl (by decide) rfl (by decide) rfl rfl (inC_X5 _) (List.mem_cons_of_mem _ fl_X5_12) dX5_fewestByAll_1 ?_
  refine lv_aload_n hx hb dX5_fewestByAll_4 rfl (lv_at hl 0 rfl) ?_
  refine vt_getR (r := 1) S hF hP (k := 0) (ci := 5) 0 (hlt _ (by decide)) rfl (by decide) rfl (by decide) rfl rfl (inC_X5 _) (List.mem_cons_of_mem _ fl_X5_12) dX5_fewestByAll_5 ?_
  refine vt_getL S hF hP (k := 2) (ci := 0) 1 (hlt _ (by decide)) rfl (by decide) rfl (by decide) rfl (inC_X0 _) (List.mem_cons_of_mem _ fl_X5_83) dX5_fewestByAll_8 ?_
  refine lv_iconst (v := 0) hx hb dX5_fewestByAll_11 (by decide) ?_
  obtain ⟨q1, hq1, h⟩ := ob h
  refine vu_i hP (vu_S S hF hP (c_X5_fewestFrom l P hA hn w 5 (gL w 1 2) 0 _ hq1) ok_X5_fewestFrom ml_X5_384 ⟨Nat.le_of_ble_eq_true rfl, Nat.le_of_ble_eq_true rfl⟩ rfl hl.1 rfl (Nat.le_of_ble_eq_true rfl) dX5_fewestByAll_12 ⟨Nat.le_of_ble_eq_true rfl, Nat.le_of_ble_eq_true rfl⟩) (fun H locs ho2 hP => ?_)
  obtain rfl := Option.some.inj h
  exact ve_i (v := q1) S hF hP hr hk rfl dX5_fewestByAll_15
set_option maxRecDepth 100000 in
set_option maxHeartbeats 4000000 in
theorem c_X5_fewestByHalves (l : Launch) (P : Pl) (hA : Adr P) (hn : 26 ≤ P.2.2.2.1) (w : Wo) {r : Int32 × Wo} (h : F_X5_fewestByHalves w = some r) : CtI l P yX5_fewestByHalves cX5_fewestByHalves 1 (some .int) 4 [.ref (P.2.1 0)] w r.1 r.2 := by
  have hlt : ∀ h, h < 26 → h < P.2.2.2.1 := fun h q => Nat.lt_of_lt_of_le q hn
  refine vs_met hA (by decide +kernel) (Nat.le_of_ble_eq_true rfl) (fun p e s m args below meth c ls S hF hP hl hr hk => ?_)
  have hx := S.1
  have hb := S.2.1
  replace hl : lv_has ls 1 [(0, .ref (P.2.1 0))] := hl
  unfold F_X5_fewestByHalves at h
  refine lv_aload_n hx hb dX5_fewestByHalves_0 rfl (lv_at hl 0 rfl) ?_
  refine vt_getR (r := 14) S hF hP (k := 4) (ci := 5) 0 (hlt _ (by decide)) rfl (by decide) rfl (by decide) rfl rfl (inC_X5 _) (List.mem_cons_of_mem _ fl_X5_32) dX5_fewestByHalves_1 ?_
  refine lv_aload_n hx hb dX5_fewestByHalves_4 rfl (lv_at hl 0 rfl) ?_
  refine vt_getR (r := 1) S hF hP (k := 0) (ci := 5) 0 (hlt _ (by decide)) rfl (by decide) rfl (by decide) rfl rfl (inC_X5 _) (List.mem_cons_of_mem _ fl_X5_12) dX5_fewestByHalves_5 ?_
  obtain ⟨q1, hq1, h⟩ := ob h
  refine vu_v hP (vu_V S hF hP (h := 14) (hlt _ (by decide)) rfl (by decide) rfl (c_X1_search l P hA hn w hq1) ok_X1_search ml_X5_120 ⟨Nat.le_of_ble_eq_true rfl, Nat.le_of_ble_eq_true rfl⟩ rfl hl.1 rfl (Nat.le_of_ble_eq_true rfl) dX5_fewestByHalves_8 ⟨Nat.le_of_ble_eq_true rfl, Nat.le_of_ble_eq_true rfl⟩) (fun H locs hP => ?_)
  refine lv_aload_n hx hb dX5_fewestByHalves_11 rfl (lv_at hl 0 rfl) ?_
  refine vt_getR (r := 14) S hF hP (k := 4) (ci := 5) 0 (hlt _ (by decide)) rfl (by decide) rfl (by decide) rfl rfl (inC_X5 _) (List.mem_cons_of_mem _ fl_X5_32) dX5_fewestByHalves_12 ?_
  refine vt_getI S hF hP (k := 6) (ci := 1) 14 (hlt _ (by decide)) rfl (by decide) rfl (by decide) rfl (inC_X1 _) (List.mem_cons_of_mem _ fl_X5_381) dX5_fewestByHalves_15 ?_
  obtain rfl := Option.some.inj h
  exact ve_i (v := (gI q1 14 6)) S hF hP hr hk rfl dX5_fewestByHalves_18
set_option maxRecDepth 100000 in
set_option maxHeartbeats 4000000 in
theorem c_X5_away (l : Launch) (P : Pl) (hA : Adr P) (hn : 26 ≤ P.2.2.2.1) (hst : l.stackTraces = false) (w : Wo) (x1 : Int32) {r : (Nat × Wo) ⊕ (Int32 × Wo)} (h : F_X5_away w x1 = some r) : CxI l P yX5_away cX5_away 3 (some .int) 15 1 [.ref (P.2.1 0), .int x1] w r := by
  have hlt : ∀ h, h < 26 → h < P.2.2.2.1 := fun h q => Nat.lt_of_lt_of_le q hn
  refine vs_vx hA (by decide +kernel) (Nat.le_of_ble_eq_true rfl) (fun p e s m args below meth c ls S hF hP hl hr hk hxt => ?_)
  have hx := S.1
  have hb := S.2.1
  replace hl : lv_has ls 3 [(0, .ref (P.2.1 0)), (1, .int x1)] := hl
  have hB15 : ∀ (w : Wo) (t0 : Int32), B_X5_away_15 w t0 = some r → ∀ (H : Heap) (locs : List Loc) (ls : Array Slot), St P s w H locs → lv_has ls 3 [] → W p l e (rmU 15 1 (6 * 1)) s m args below meth c H locs 0 0 (XI P 1 r below args s) (F0 m 15 ls [.int t0]) := by
    intro w t0 h H locs ls hP hl
    unfold B_X5_away_15 at h
    refine lv_istore_n (lv' := [(2, .int t0)]) hx hb dX5_away_15 rfl hl (by decide) rfl (fun ls hl => ?_)
    refine lv_iload_n hx hb dX5_away_16 rfl (lv_at hl 0 rfl) ?_
    refine lv_iconst (v := 3) hx hb dX5_away_17 (by decide) ?_
    refine lv_icmp_le (tgt := 31) hx hb dX5_away_18 (by decide) (fun c5 => ?_) (fun c5 => ?_)
    · rw [if_pos c5] at h
      refine lv_iload_n hx hb dX5_away_31 rfl (lv_at hl 0 rfl) ?_
      obtain rfl := Option.some.inj h
      exact ve_xi (v := t0) S hF hP hr hk rfl (by decide) (by decide) dX5_away_32
    · rw [if_neg c5] at h
      obtain rfl := Option.some.inj h
      exact ve_thr4 hst S hF hP (is := 129) (text := "the goal is more than 3 turns away") (by decide +kernel) hl.1 hk hxt dX5_away_21 dX5_away_24 dX5_away_25 dX5_away_27 dX5_away_30 ⟨Nat.le_of_ble_eq_true rfl, Nat.le_of_ble_eq_true rfl, Nat.le_of_ble_eq_true rfl, Nat.le_of_ble_eq_true rfl⟩ (by decide) (by decide)
  unfold F_X5_away at h
  refine lv_iload_n hx hb dX5_away_0 rfl (lv_at hl 1 rfl) ?_
  refine lv_if_eq (tgt := 11) hx hb dX5_away_1 (by decide) (fun c6 => ?_) (fun c6 => ?_)
  · rw [if_pos c6] at h
    refine lv_aload_n hx hb dX5_away_11 rfl (lv_at hl 0 rfl) ?_
    obtain ⟨q1, hq1, h⟩ := ob h
    refine vu_i hP (vu_V S hF hP (h := 0) (hlt _ (by decide)) rfl (by decide) rfl (c_X5_fewestByHalves l P hA hn w hq1) ok_X5_fewestByHalves ml_X5_182 ⟨Nat.le_of_ble_eq_true rfl, Nat.le_of_ble_eq_true rfl⟩ rfl hl.1 rfl (Nat.le_of_ble_eq_true rfl) dX5_away_12 ⟨Nat.le_of_ble_eq_true rfl, Nat.le_of_ble_eq_true rfl⟩) (fun H locs ho2 hP => ?_)
    exact hB15 _ _ h _ _ _ hP (lv_sub hl [] rfl)
  · rw [if_neg c6] at h
    refine lv_aload_n hx hb dX5_away_4 rfl (lv_at hl 0 rfl) ?_
    obtain ⟨q3, hq3, h⟩ := ob h
    refine vu_i hP (vu_V S hF hP (h := 0) (hlt _ (by decide)) rfl (by decide) rfl (c_X5_fewestByAll l P hA hn w hq3) ok_X5_fewestByAll ml_X5_179 ⟨Nat.le_of_ble_eq_true rfl, Nat.le_of_ble_eq_true rfl⟩ rfl hl.1 rfl (Nat.le_of_ble_eq_true rfl) dX5_away_5 ⟨Nat.le_of_ble_eq_true rfl, Nat.le_of_ble_eq_true rfl⟩) (fun H locs ho4 hP => ?_)
    refine lv_goto (tgt := 15) hx hb dX5_away_8 (by decide) ?_
    exact hB15 _ _ h _ _ _ hP (lv_sub hl [] rfl)
set_option maxRecDepth 100000 in
set_option maxHeartbeats 4000000 in
theorem c_X5_firstTurn (l : Launch) (P : Pl) (hA : Adr P) (hn : 26 ≤ P.2.2.2.1) (hst : l.stackTraces = false) (w : Wo) {r : (Nat × Wo) ⊕ (Int32 × Wo)} (h : F_X5_firstTurn w = some r) : CxI l P yX5_firstTurn cX5_firstTurn 1 (some .int) 6 1 [.ref (P.2.1 0)] w r := by
  have hlt : ∀ h, h < 26 → h < P.2.2.2.1 := fun h q => Nat.lt_of_lt_of_le q hn
  refine vs_vx hA (by decide +kernel) (Nat.le_of_ble_eq_true rfl) (fun p e s m args below meth c ls S hF hP hl hr hk hxt => ?_)
  have hx := S.1
  have hb := S.2.1
  replace hl : lv_has ls 1 [(0, .ref (P.2.1 0))] := hl
  unfold F_X5_firstTurn at h
  refine lv_aload_n hx hb dX5_firstTurn_0 rfl (lv_at hl 0 rfl) ?_
  refine vt_getR (r := 14) S hF hP (k := 4) (ci := 5) 0 (hlt _ (by decide)) rfl (by decide) rfl (by decide) rfl rfl (inC_X5 _) (List.mem_cons_of_mem _ fl_X5_32) dX5_firstTurn_1 ?_
  refine lv_aload_n hx hb dX5_firstTurn_4 rfl (lv_at hl 0 rfl) ?_
  refine vt_getR (r := 1) S hF hP (k := 0) (ci := 5) 0 (hlt _ (by decide)) rfl (by decide) rfl (by decide) rfl rfl (inC_X5 _) (List.mem_cons_of_mem _ fl_X5_12) dX5_firstTurn_5 ?_
  obtain ⟨q1, hq1, h⟩ := ob h
  refine vu_v hP (vu_V S hF hP (h := 14) (hlt _ (by decide)) rfl (by decide) rfl (c_X1_search l P hA hn w hq1) ok_X1_search ml_X5_120 ⟨Nat.le_of_ble_eq_true rfl, Nat.le_of_ble_eq_true rfl⟩ rfl hl.1 rfl (Nat.le_of_ble_eq_true rfl) dX5_firstTurn_8 ⟨Nat.le_of_ble_eq_true rfl, Nat.le_of_ble_eq_true rfl⟩) (fun H locs hP => ?_)
  refine lv_aload_n hx hb dX5_firstTurn_11 rfl (lv_at hl 0 rfl) ?_
  refine vt_getR (r := 14) S hF hP (k := 4) (ci := 5) 0 (hlt _ (by decide)) rfl (by decide) rfl (by decide) rfl rfl (inC_X5 _) (List.mem_cons_of_mem _ fl_X5_32) dX5_firstTurn_12 ?_
  refine vt_getI S hF hP (k := 7) (ci := 1) 14 (hlt _ (by decide)) rfl (by decide) rfl (by decide) rfl (inC_X1 _) (List.mem_cons_of_mem _ fl_X5_124) dX5_firstTurn_15 ?_
  refine lv_if_ge (tgt := 31) hx hb dX5_firstTurn_18 (by decide) (fun c2 => ?_) (fun c2 => ?_)
  · rw [if_pos c2] at h
    refine lv_aload_n hx hb dX5_firstTurn_31 rfl (lv_at hl 0 rfl) ?_
    refine vt_getR (r := 14) S hF hP (k := 4) (ci := 5) 0 (hlt _ (by decide)) rfl (by decide) rfl (by decide) rfl rfl (inC_X5 _) (List.mem_cons_of_mem _ fl_X5_32) dX5_firstTurn_32 ?_
    refine vt_getI S hF hP (k := 7) (ci := 1) 14 (hlt _ (by decide)) rfl (by decide) rfl (by decide) rfl (inC_X1 _) (List.mem_cons_of_mem _ fl_X5_124) dX5_firstTurn_35 ?_
    obtain rfl := Option.some.inj h
    exact ve_xi (v := (gI q1 14 7)) S hF hP hr hk rfl (by decide) (by decide) dX5_firstTurn_38
  · rw [if_neg c2] at h
    obtain rfl := Option.some.inj h
    exact ve_thr4 hst S hF hP (is := 185) (text := "the goal is reached, or more than 3 turns away") (by decide +kernel) hl.1 hk hxt dX5_firstTurn_21 dX5_firstTurn_24 dX5_firstTurn_25 dX5_firstTurn_27 dX5_firstTurn_30 ⟨Nat.le_of_ble_eq_true rfl, Nat.le_of_ble_eq_true rfl, Nat.le_of_ble_eq_true rfl, Nat.le_of_ble_eq_true rfl⟩ (by decide) (by decide)
set_option maxRecDepth 100000 in
set_option maxHeartbeats 4000000 in
theorem c_X5_isOut (l : Launch) (P : Pl) (hA : Adr P) (hn : 26 ≤ P.2.2.2.1) (w : Wo) {r : Int32} (h : F_X5_isOut w = some r) : CtI l P yX5_isOut cX5_isOut 1 (some .boolean) 5 [.ref (P.2.1 0)] w r w := by
  have hlt : ∀ h, h < 26 → h < P.2.2.2.1 := fun h q => Nat.lt_of_lt_of_le q hn
  refine vs_met hA (by decide +kernel) (Nat.le_of_ble_eq_true rfl) (fun p e s m args below meth c ls S hF hP hl hr hk => ?_)
  have hx := S.1
  have hb := S.2.1
  replace hl : lv_has ls 1 [(0, .ref (P.2.1 0))] := hl
  unfold F_X5_isOut at h
  refine lv_aload_n hx hb dX5_isOut_0 rfl (lv_at hl 0 rfl) ?_
  refine vt_getR (r := 1) S hF hP (k := 0) (ci := 5) 0 (hlt _ (by decide)) rfl (by decide) rfl (by decide) rfl rfl (inC_X5 _) (List.mem_cons_of_mem _ fl_X5_12) dX5_isOut_1 ?_
  obtain ⟨q1, hq1, h⟩ := ob h
  refine vu_i hP (vu_V S hF hP (h := 1) (hlt _ (by decide)) rfl (by decide) rfl (c_X0_isBeyondReach l P hA hn w hq1) ok_X0_isBeyondReach ml_X5_187 ⟨Nat.le_of_ble_eq_true rfl, Nat.le_of_ble_eq_true rfl⟩ rfl hl.1 rfl (Nat.le_of_ble_eq_true rfl) dX5_isOut_4 ⟨Nat.le_of_ble_eq_true rfl, Nat.le_of_ble_eq_true rfl⟩) (fun H locs ho2 hP => ?_)
  obtain rfl := Option.some.inj h
  exact ve_i (v := q1) S hF hP hr hk ho2 dX5_isOut_7
set_option maxRecDepth 100000 in
set_option maxHeartbeats 4000000 in
theorem c_X0_hasSameLetters (l : Launch) (P : Pl) (hA : Adr P) (hn : 26 ≤ P.2.2.2.1) (w : Wo) {r : Int32} (h : F_X0_hasSameLetters w = some r) : CtI l P yX0_hasSameLetters cX0_hasSameLetters 3 (some .boolean) 4 [.ref (P.2.1 1)] w r w := by
  have hlt : ∀ h, h < 26 → h < P.2.2.2.1 := fun h q => Nat.lt_of_lt_of_le q hn
  refine vs_met hA (by decide +kernel) (Nat.le_of_ble_eq_true rfl) (fun p e s m args below meth c ls S hF hP hl hr hk => ?_)
  have hx := S.1
  have hb := S.2.1
  replace hl : lv_has ls 3 [(0, .ref (P.2.1 1))] := hl
  have hL7 : ∀ (n : Nat) (x1 : Int32) (x2 : Int32), jl2 (B_X0_hasSameLetters_7 w) n x1 x2 = some r → ∀ (H : Heap) (locs : List Loc) (ls : Array Slot), St P s w H locs → lv_has ls 3 [(0, .ref (P.2.1 1)), (1, .int x1), (2, .int x2)] → W p l e (rmU 4 0 0) s m args below meth c H locs 0 0 (QI P (some .boolean) r w below args s) (F0 m 7 ls []) := by
    intro n
    induction n with
    | zero =>
      intro x1 x2 h
      cases h
    | succ n ih7 =>
      intro x1 x2 h H locs ls hP hl
      replace h : B_X0_hasSameLetters_7 w (jl2 (B_X0_hasSameLetters_7 w) n) x1 x2 = some r := h
      revert h ih7
      generalize jl2 (B_X0_hasSameLetters_7 w) n = k7
      intro ih7 h
      have hB44 : ∀ (x2 : Int32) (t0 : Int32), B_X0_hasSameLetters_44 k7 w x2 t0 = some r → ∀ (H : Heap) (locs : List Loc) (ls : Array Slot), St P s w H locs → lv_has ls 3 [(0, .ref (P.2.1 1)), (2, .int x2)] → W p l e (rmU 4 0 0) s m args below meth c H locs 0 0 (QI P (some .boolean) r w below args s) (F0 m 44 ls [.int t0]) := by
        intro x2 t0 h H locs ls hP hl
        unfold B_X0_hasSameLetters_44 at h
        refine lv_istore_n (lv' := [(1, .int t0), (0, .ref (P.2.1 1)), (2, .int x2)]) hx hb dX0_hasSameLetters_44 rfl hl (by decide) rfl (fun ls hl => ?_)
        refine lv_iinc (v := (x2 + 1)) (lv' := [(2, .int (x2 + 1)), (1, .int t0), (0, .ref (P.2.1 1))]) hx hb dX0_hasSameLetters_45 hl (k := 2) rfl rfl (by decide) rfl (fun ls hl => ?_)
        refine lv_goto (tgt := 7) hx hb dX0_hasSameLetters_48 (by decide) ?_
        exact ih7 _ _ h _ _ _ hP (lv_sub hl [2, 1, 0] rfl)
      have hB43 : ∀ (x2 : Int32), B_X0_hasSameLetters_43 k7 w x2 = some r → ∀ (H : Heap) (locs : List Loc) (ls : Array Slot), St P s w H locs → lv_has ls 3 [(0, .ref (P.2.1 1)), (2, .int x2)] → W p l e (rmU 4 0 0) s m args below meth c H locs 0 0 (QI P (some .boolean) r w below args s) (F0 m 43 ls []) := by
        intro x2 h H locs ls hP hl
        unfold B_X0_hasSameLetters_43 at h
        refine lv_iconst (v := 0) hx hb dX0_hasSameLetters_43 (by decide) ?_
        exact hB44 _ _ h _ _ _ hP (lv_sub hl [0, 1] rfl)
      unfold B_X0_hasSameLetters_7 at h
      refine lv_iload_n hx hb dX0_hasSameLetters_7 rfl (lv_at hl 2 rfl) ?_
      refine lv_aload_n hx hb dX0_hasSameLetters_8 rfl (lv_at hl 0 rfl) ?_
      refine vu_i hP (vu_V S hF hP (h := 1) (hlt _ (by decide)) rfl (by decide) rfl (c_X0_places l P hA hn w) ok_X0_places ml_X0_46 ⟨Nat.le_of_ble_eq_true rfl, Nat.le_of_ble_eq_true rfl⟩ rfl hl.1 rfl (Nat.le_of_ble_eq_true rfl) dX0_hasSameLetters_9 ⟨Nat.le_of_ble_eq_true rfl, Nat.le_of_ble_eq_true rfl⟩) (fun H locs ho3 hP => ?_)
      refine lv_icmp_ge (tgt := 51) hx hb dX0_hasSameLetters_12 (by decide) (fun c7 => ?_) (fun c7 => ?_)
      · rw [if_pos c7] at h
        refine lv_iload_n hx hb dX0_hasSameLetters_51 rfl (lv_at hl 1 rfl) ?_
        obtain ⟨c8, h⟩ := chk h
        obtain rfl := Option.some.inj h
        exact ve_i (v := x1) S hF hP hr hk (nar_z c8) dX0_hasSameLetters_52
      · rw [if_neg c7] at h
        refine lv_iload_n hx hb dX0_hasSameLetters_15 rfl (lv_at hl 1 rfl) ?_
        refine lv_if_eq (tgt := 43) hx hb dX0_hasSameLetters_16 (by decide) (fun c9 => ?_) (fun c9 => ?_)
        · rw [if_pos c9] at h
          exact hB43 _ h _ _ _ hP (lv_sub hl [0, 2] rfl)
        · rw [if_neg c9] at h
          refine lv_aload_n hx hb dX0_hasSameLetters_19 rfl (lv_at hl 0 rfl) ?_
          refine lv_aload_n hx hb dX0_hasSameLetters_20 rfl (lv_at hl 0 rfl) ?_
          refine vt_getL S hF hP (k := 3) (ci := 0) 1 (hlt _ (by decide)) rfl (by decide) rfl (by decide) rfl (inC_X0 _) (List.mem_cons_of_mem _ fl_X0_22) dX0_hasSameLetters_21 ?_
          refine lv_aload_n hx hb dX0_hasSameLetters_24 rfl (lv_at hl 0 rfl) ?_
          refine vt_getL S hF hP (k := 2) (ci := 0) 1 (hlt _ (by decide)) rfl (by decide) rfl (by decide) rfl (inC_X0 _) (List.mem_cons_of_mem _ fl_X0_18) dX0_hasSameLetters_25 ?_
          refine lv_iload_n hx hb dX0_hasSameLetters_28 rfl (lv_at hl 2 rfl) ?_
          refine vu_i hP (vu_SN S hF hP (host := RX5) (c_X5_codeAt l P hA hn w (gL w 1 2) x2) ok_X5_codeAt (by decide +kernel) ⟨Nat.le_of_ble_eq_true rfl, Nat.le_of_ble_eq_true rfl⟩ rfl hl.1 rfl (Nat.le_of_ble_eq_true rfl) dX0_hasSameLetters_29 ⟨Nat.le_of_ble_eq_true rfl, Nat.le_of_ble_eq_true rfl⟩) (fun H locs ho4 hP => ?_)
          obtain ⟨q5, hq5, h⟩ := ob h
          refine vu_i hP (vu_V S hF hP (h := 1) (hlt _ (by decide)) rfl (by decide) rfl (c_X0_count l P hA hn w (gL w 1 3) (F_X5_codeAt (gL w 1 2) x2) hq5) ok_X0_count ml_X0_109 ⟨Nat.le_of_ble_eq_true rfl, Nat.le_of_ble_eq_true rfl⟩ rfl hl.1 rfl (Nat.le_of_ble_eq_true rfl) dX0_hasSameLetters_32 ⟨Nat.le_of_ble_eq_true rfl, Nat.le_of_ble_eq_true rfl⟩) (fun H locs ho6 hP => ?_)
          refine lv_iconst (v := 1) hx hb dX0_hasSameLetters_35 (by decide) ?_
          refine lv_icmp_ne (tgt := 43) hx hb dX0_hasSameLetters_36 (by decide) (fun c10 => ?_) (fun c10 => ?_)
          · rw [if_neg c10] at h
            exact hB43 _ h _ _ _ hP (lv_sub hl [0, 2] rfl)
          · rw [if_pos c10] at h
            refine lv_iconst (v := 1) hx hb dX0_hasSameLetters_39 (by decide) ?_
            refine lv_goto (tgt := 44) hx hb dX0_hasSameLetters_40 (by decide) ?_
            exact hB44 _ _ h _ _ _ hP (lv_sub hl [0, 2] rfl)
  unfold F_X0_hasSameLetters at h
  refine lv_aload_n hx hb dX0_hasSameLetters_0 rfl (lv_at hl 0 rfl) ?_
  obtain ⟨q1, hq1, h⟩ := ob h
  refine vu_i hP (vu_V S hF hP (h := 1) (hlt _ (by decide)) rfl (by decide) rfl (c_X0_areAllUnlike l P hA hn w hq1) ok_X0_areAllUnlike ml_X0_115 ⟨Nat.le_of_ble_eq_true rfl, Nat.le_of_ble_eq_true rfl⟩ rfl hl.1 rfl (Nat.le_of_ble_eq_true rfl) dX0_hasSameLetters_1 ⟨Nat.le_of_ble_eq_true rfl, Nat.le_of_ble_eq_true rfl⟩) (fun H locs ho2 hP => ?_)
  refine lv_istore_n (lv' := [(1, .int q1), (0, .ref (P.2.1 1))]) hx hb dX0_hasSameLetters_4 rfl hl (by decide) rfl (fun ls hl => ?_)
  refine lv_iconst (v := 0) hx hb dX0_hasSameLetters_5 (by decide) ?_
  refine lv_istore_n (lv' := [(2, .int 0), (1, .int q1), (0, .ref (P.2.1 1))]) hx hb dX0_hasSameLetters_6 rfl hl (by decide) rfl (fun ls hl => ?_)
  exact hL7 fu _ _ h _ _ _ hP (lv_sub hl [2, 1, 0] rfl)
set_option maxRecDepth 100000 in
set_option maxHeartbeats 4000000 in
theorem c_X0_isOddByPairs (l : Launch) (P : Pl) (hA : Adr P) (hn : 26 ≤ P.2.2.2.1) (w : Wo) (x1 : Int64) {r : Int32} (h : F_X0_isOddByPairs w x1 = some r) : CtI l P yX0_isOddByPairs cX0_isOddByPairs 7 (some .boolean) 2 [.ref (P.2.1 1), .long x1] w r w := by
  have hlt : ∀ h, h < 26 → h < P.2.2.2.1 := fun h q => Nat.lt_of_lt_of_le q hn
  refine vs_met hA (by decide +kernel) (Nat.le_of_ble_eq_true rfl) (fun p e s m args below meth c ls S hF hP hl hr hk => ?_)
  have hx := S.1
  have hb := S.2.1
  replace hl : lv_has ls 7 [(0, .ref (P.2.1 1)), (1, .long x1)] := hl
  have hL5 : ∀ (x1 : Int64) (n : Nat) (x3 : Int32) (x4 : Int32), jl2 (B_X0_isOddByPairs_5 w x1) n x3 x4 = some r → ∀ (H : Heap) (locs : List Loc) (ls : Array Slot), St P s w H locs → lv_has ls 7 [(0, .ref (P.2.1 1)), (1, .long x1), (3, .int x3), (4, .int x4)] → W p l e (rmU 2 0 0) s m args below meth c H locs 0 0 (QI P (some .boolean) r w below args s) (F0 m 5 ls []) := by
    intro x1
    intro n
    induction n with
    | zero =>
      intro x3 x4 h
      cases h
    | succ n ih5 =>
      intro x3 x4 h H locs ls hP hl
      replace h : B_X0_isOddByPairs_5 w x1 (jl2 (B_X0_isOddByPairs_5 w x1) n) x3 x4 = some r := h
      revert h ih5
      generalize jl2 (B_X0_isOddByPairs_5 w x1) n = k5
      intro ih5 h
      have hB80 : ∀ (x3 : Int32) (x4 : Int32), B_X0_isOddByPairs_80 k5 w x1 x3 x4 = some r → ∀ (H : Heap) (locs : List Loc) (ls : Array Slot), St P s w H locs → lv_has ls 7 [(0, .ref (P.2.1 1)), (1, .long x1), (3, .int x3), (4, .int x4)] → W p l e (rmU 2 0 0) s m args below meth c H locs 0 0 (QI P (some .boolean) r w below args s) (F0 m 80 ls []) := by
        intro x3 x4 h H locs ls hP hl
        unfold B_X0_isOddByPairs_80 at h
        refine lv_iinc (v := (x4 + 1)) (lv' := [(4, .int (x4 + 1)), (0, .ref (P.2.1 1)), (1, .long x1), (3, .int x3)]) hx hb dX0_isOddByPairs_80 hl (k := 3) rfl rfl (by decide) rfl (fun ls hl => ?_)
        refine lv_goto (tgt := 5) hx hb dX0_isOddByPairs_83 (by decide) ?_
        exact ih5 _ _ h _ _ _ hP (lv_sub hl [1, 2, 3, 0] rfl)
      have hL36 : ∀ (x4 : Int32) (x5 : Int32) (n : Nat) (x3 : Int32) (x6 : Int32), jl2 (B_X0_isOddByPairs_36 k5 w x1 x4 x5) n x3 x6 = some r → ∀ (H : Heap) (locs : List Loc) (ls : Array Slot), St P s w H locs → lv_has ls 7 [(0, .ref (P.2.1 1)), (1, .long x1), (3, .int x3), (4, .int x4), (5, .int x5), (6, .int x6)] → W p l e (rmU 2 0 0) s m args below meth c H locs 0 0 (QI P (some .boolean) r w below args s) (F0 m 36 ls []) := by
        intro x4 x5
        intro n
        induction n with
        | zero =>
          intro x3 x6 h
          cases h
        | succ n ih36 =>
          intro x3 x6 h H locs ls hP hl
          replace h : B_X0_isOddByPairs_36 k5 w x1 x4 x5 (jl2 (B_X0_isOddByPairs_36 k5 w x1 x4 x5) n) x3 x6 = some r := h
          revert h ih36
          generalize jl2 (B_X0_isOddByPairs_36 k5 w x1 x4 x5) n = k36
          intro ih36 h
          have hB74 : ∀ (x3 : Int32) (x6 : Int32), B_X0_isOddByPairs_74 k5 k36 w x1 x3 x4 x5 x6 = some r → ∀ (H : Heap) (locs : List Loc) (ls : Array Slot), St P s w H locs → lv_has ls 7 [(0, .ref (P.2.1 1)), (1, .long x1), (3, .int x3), (4, .int x4), (5, .int x5), (6, .int x6)] → W p l e (rmU 2 0 0) s m args below meth c H locs 0 0 (QI P (some .boolean) r w below args s) (F0 m 74 ls []) := by
            intro x3 x6 h H locs ls hP hl
            unfold B_X0_isOddByPairs_74 at h
            refine lv_iinc (v := (x6 + 1)) (lv' := [(6, .int (x6 + 1)), (0, .ref (P.2.1 1)), (1, .long x1), (3, .int x3), (4, .int x4), (5, .int x5)]) hx hb dX0_isOddByPairs_74 hl (k := 5) rfl rfl (by decide) rfl (fun ls hl => ?_)
            refine lv_goto (tgt := 36) hx hb dX0_isOddByPairs_77 (by decide) ?_
            exact ih36 _ _ h _ _ _ hP (lv_sub hl [1, 2, 3, 4, 5, 0] rfl)
          have hB73 : ∀ (x6 : Int32) (t0 : Int32), B_X0_isOddByPairs_73 k5 k36 w x1 x4 x5 x6 t0 = some r → ∀ (H : Heap) (locs : List Loc) (ls : Array Slot), St P s w H locs → lv_has ls 7 [(0, .ref (P.2.1 1)), (1, .long x1), (4, .int x4), (5, .int x5), (6, .int x6)] → W p l e (rmU 2 0 0) s m args below meth c H locs 0 0 (QI P (some .boolean) r w below args s) (F0 m 73 ls [.int t0]) := by
            intro x6 t0 h H locs ls hP hl
            unfold B_X0_isOddByPairs_73 at h
            refine lv_istore_n (lv' := [(3, .int t0), (0, .ref (P.2.1 1)), (1, .long x1), (4, .int x4), (5, .int x5), (6, .int x6)]) hx hb dX0_isOddByPairs_73 rfl hl (by decide) rfl (fun ls hl => ?_)
            exact hB74 _ _ h _ _ _ hP (lv_sub hl [1, 2, 0, 3, 4, 5] rfl)
          unfold B_X0_isOddByPairs_36 at h
          refine lv_iload hx hb dX0_isOddByPairs_36 (lv_at hl 5 rfl) ?_
          refine lv_aload_n hx hb dX0_isOddByPairs_38 rfl (lv_at hl 0 rfl) ?_
          refine vu_i hP (vu_V S hF hP (h := 1) (hlt _ (by decide)) rfl (by decide) rfl (c_X0_places l P hA hn w) ok_X0_places ml_X0_46 ⟨Nat.le_of_ble_eq_true rfl, Nat.le_of_ble_eq_true rfl⟩ rfl hl.1 rfl (Nat.le_of_ble_eq_true rfl) dX0_isOddByPairs_39 ⟨Nat.le_of_ble_eq_true rfl, Nat.le_of_ble_eq_true rfl⟩) (fun H locs ho5 hP => ?_)
          refine lv_icmp_ge (tgt := 80) hx hb dX0_isOddByPairs_42 (by decide) (fun c9 => ?_) (fun c9 => ?_)
          · rw [if_pos c9] at h
            exact hB80 _ _ h _ _ _ hP (lv_sub hl [0, 1, 2, 3] rfl)
          · rw [if_neg c9] at h
            refine lv_iload hx hb dX0_isOddByPairs_45 (lv_at hl 4 rfl) ?_
            refine lv_aload_n hx hb dX0_isOddByPairs_47 rfl (lv_at hl 0 rfl) ?_
            refine lv_lload_n hx hb dX0_isOddByPairs_48 rfl (lv_at hl 1 rfl) ?_
            refine lv_aload_n hx hb dX0_isOddByPairs_49 rfl (lv_at hl 0 rfl) ?_
            refine vt_getL S hF hP (k := 2) (ci := 0) 1 (hlt _ (by decide)) rfl (by decide) rfl (by decide) rfl (inC_X0 _) (List.mem_cons_of_mem _ fl_X0_18) dX0_isOddByPairs_50 ?_
            refine lv_iload hx hb dX0_isOddByPairs_53 (lv_at hl 5 rfl) ?_
            refine vu_i hP (vu_SN S hF hP (host := RX5) (c_X5_codeAt l P hA hn w (gL w 1 2) x6) ok_X5_codeAt (by decide +kernel) ⟨Nat.le_of_ble_eq_true rfl, Nat.le_of_ble_eq_true rfl⟩ rfl hl.1 rfl (Nat.le_of_ble_eq_true rfl) dX0_isOddByPairs_55 ⟨Nat.le_of_ble_eq_true rfl, Nat.le_of_ble_eq_true rfl⟩) (fun H locs ho6 hP => ?_)
            obtain ⟨q7, hq7, h⟩ := ob h
            refine vu_i hP (vu_V S hF hP (h := 1) (hlt _ (by decide)) rfl (by decide) rfl (c_X0_placeOf l P hA hn w x1 (F_X5_codeAt (gL w 1 2) x6) hq7) ok_X0_placeOf ml_X0_125 ⟨Nat.le_of_ble_eq_true rfl, Nat.le_of_ble_eq_true rfl⟩ rfl hl.1 rfl (Nat.le_of_ble_eq_true rfl) dX0_isOddByPairs_58 ⟨Nat.le_of_ble_eq_true rfl, Nat.le_of_ble_eq_true rfl⟩) (fun H locs ho8 hP => ?_)
            refine lv_icmp_le (tgt := 74) hx hb dX0_isOddByPairs_61 (by decide) (fun c10 => ?_) (fun c10 => ?_)
            · rw [if_pos c10] at h
              exact hB74 _ _ h _ _ _ hP (lv_sub hl [0, 1, 2, 3, 4, 5] rfl)
            · rw [if_neg c10] at h
              refine lv_iload_n hx hb dX0_isOddByPairs_64 rfl (lv_at hl 2 rfl) ?_
              refine lv_if_ne (tgt := 72) hx hb dX0_isOddByPairs_65 (by decide) (fun c11 => ?_) (fun c11 => ?_)
              · rw [if_neg c11] at h
                refine lv_iconst (v := 0) hx hb dX0_isOddByPairs_72 (by decide) ?_
                exact hB73 _ _ h _ _ _ hP (lv_sub hl [0, 1, 3, 4, 5] rfl)
              · rw [if_pos c11] at h
                refine lv_iconst (v := 1) hx hb dX0_isOddByPairs_68 (by decide) ?_
                refine lv_goto (tgt := 73) hx hb dX0_isOddByPairs_69 (by decide) ?_
                exact hB73 _ _ h _ _ _ hP (lv_sub hl [0, 1, 3, 4, 5] rfl)
      unfold B_X0_isOddByPairs_5 at h
      refine lv_iload hx hb dX0_isOddByPairs_5 (lv_at hl 3 rfl) ?_
      refine lv_aload_n hx hb dX0_isOddByPairs_7 rfl (lv_at hl 0 rfl) ?_
      refine vu_i hP (vu_V S hF hP (h := 1) (hlt _ (by decide)) rfl (by decide) rfl (c_X0_places l P hA hn w) ok_X0_places ml_X0_46 ⟨Nat.le_of_ble_eq_true rfl, Nat.le_of_ble_eq_true rfl⟩ rfl hl.1 rfl (Nat.le_of_ble_eq_true rfl) dX0_isOddByPairs_8 ⟨Nat.le_of_ble_eq_true rfl, Nat.le_of_ble_eq_true rfl⟩) (fun H locs ho1 hP => ?_)
      refine lv_icmp_ge (tgt := 86) hx hb dX0_isOddByPairs_11 (by decide) (fun c12 => ?_) (fun c12 => ?_)
      · rw [if_pos c12] at h
        refine lv_iload_n hx hb dX0_isOddByPairs_86 rfl (lv_at hl 2 rfl) ?_
        obtain ⟨c13, h⟩ := chk h
        obtain rfl := Option.some.inj h
        exact ve_i (v := x3) S hF hP hr hk (nar_z c13) dX0_isOddByPairs_87
      · rw [if_neg c12] at h
        refine lv_aload_n hx hb dX0_isOddByPairs_14 rfl (lv_at hl 0 rfl) ?_
        refine lv_lload_n hx hb dX0_isOddByPairs_15 rfl (lv_at hl 1 rfl) ?_
        refine lv_aload_n hx hb dX0_isOddByPairs_16 rfl (lv_at hl 0 rfl) ?_
        refine vt_getL S hF hP (k := 2) (ci := 0) 1 (hlt _ (by decide)) rfl (by decide) rfl (by decide) rfl (inC_X0 _) (List.mem_cons_of_mem _ fl_X0_18) dX0_isOddByPairs_17 ?_
        refine lv_iload hx hb dX0_isOddByPairs_20 (lv_at hl 3 rfl) ?_
        refine vu_i hP (vu_SN S hF hP (host := RX5) (c_X5_codeAt l P hA hn w (gL w 1 2) x4) ok_X5_codeAt (by decide +kernel) ⟨Nat.le_of_ble_eq_true rfl, Nat.le_of_ble_eq_true rfl⟩ rfl hl.1 rfl (Nat.le_of_ble_eq_true rfl) dX0_isOddByPairs_22 ⟨Nat.le_of_ble_eq_true rfl, Nat.le_of_ble_eq_true rfl⟩) (fun H locs ho2 hP => ?_)
        obtain ⟨q3, hq3, h⟩ := ob h
        refine vu_i hP (vu_V S hF hP (h := 1) (hlt _ (by decide)) rfl (by decide) rfl (c_X0_placeOf l P hA hn w x1 (F_X5_codeAt (gL w 1 2) x4) hq3) ok_X0_placeOf ml_X0_125 ⟨Nat.le_of_ble_eq_true rfl, Nat.le_of_ble_eq_true rfl⟩ rfl hl.1 rfl (Nat.le_of_ble_eq_true rfl) dX0_isOddByPairs_25 ⟨Nat.le_of_ble_eq_true rfl, Nat.le_of_ble_eq_true rfl⟩) (fun H locs ho4 hP => ?_)
        refine lv_istore (lv' := [(5, .int q3), (0, .ref (P.2.1 1)), (1, .long x1), (3, .int x3), (4, .int x4)]) hx hb dX0_isOddByPairs_28 hl (by decide) rfl (fun ls hl => ?_)
        refine lv_iload hx hb dX0_isOddByPairs_30 (lv_at hl 4 rfl) ?_
        refine lv_iconst (v := 1) hx hb dX0_isOddByPairs_32 (by decide) ?_
        refine lv_iadd hx hb dX0_isOddByPairs_33 ?_
        refine lv_istore (lv' := [(6, .int (x4 + (1 : Int32))), (5, .int q3), (0, .ref (P.2.1 1)), (1, .long x1), (3, .int x3), (4, .int x4)]) hx hb dX0_isOddByPairs_34 hl (by decide) rfl (fun ls hl => ?_)
        exact hL36 _ _ fu _ _ h _ _ _ hP (lv_sub hl [2, 3, 4, 5, 1, 0] rfl)
  unfold F_X0_isOddByPairs at h
  refine lv_iconst (v := 0) hx hb dX0_isOddByPairs_0 (by decide) ?_
  refine lv_istore_n (lv' := [(3, .int 0), (0, .ref (P.2.1 1)), (1, .long x1)]) hx hb dX0_isOddByPairs_1 rfl hl (by decide) rfl (fun ls hl => ?_)
  refine lv_iconst (v := 0) hx hb dX0_isOddByPairs_2 (by decide) ?_
  refine lv_istore (lv' := [(4, .int 0), (3, .int 0), (0, .ref (P.2.1 1)), (1, .long x1)]) hx hb dX0_isOddByPairs_3 hl (by decide) rfl (fun ls hl => ?_)
  exact hL5 _ fu _ _ h _ _ _ hP (lv_sub hl [2, 3, 1, 0] rfl)
set_option maxRecDepth 100000 in
set_option maxHeartbeats 4000000 in
theorem c_X5_isOdd (l : Launch) (P : Pl) (hA : Adr P) (hn : 26 ≤ P.2.2.2.1) (hst : l.stackTraces = false) (w : Wo) (x1 : Int32) {r : (Nat × Wo) ⊕ (Int32 × Wo)} (h : F_X5_isOdd w x1 = some r) : CxI l P yX5_isOdd cX5_isOdd 2 (some .boolean) 6 1 [.ref (P.2.1 0), .int x1] w r := by
  have hlt : ∀ h, h < 26 → h < P.2.2.2.1 := fun h q => Nat.lt_of_lt_of_le q hn
  refine vs_vx hA (by decide +kernel) (Nat.le_of_ble_eq_true rfl) (fun p e s m args below meth c ls S hF hP hl hr hk hxt => ?_)
  have hx := S.1
  have hb := S.2.1
  replace hl : lv_has ls 2 [(0, .ref (P.2.1 0)), (1, .int x1)] := hl
  unfold F_X5_isOdd at h
  refine lv_aload_n hx hb dX5_isOdd_0 rfl (lv_at hl 0 rfl) ?_
  refine vt_getR (r := 1) S hF hP (k := 0) (ci := 5) 0 (hlt _ (by decide)) rfl (by decide) rfl (by decide) rfl rfl (inC_X5 _) (List.mem_cons_of_mem _ fl_X5_12) dX5_isOdd_1 ?_
  obtain ⟨q1, hq1, h⟩ := ob h
  refine vu_i hP (vu_V S hF hP (h := 1) (hlt _ (by decide)) rfl (by decide) rfl (c_X0_hasSameLetters l P hA hn w hq1) ok_X0_hasSameLetters ml_X5_191 ⟨Nat.le_of_ble_eq_true rfl, Nat.le_of_ble_eq_true rfl⟩ rfl hl.1 rfl (Nat.le_of_ble_eq_true rfl) dX5_isOdd_4 ⟨Nat.le_of_ble_eq_true rfl, Nat.le_of_ble_eq_true rfl⟩) (fun H locs ho2 hP => ?_)
  refine lv_if_ne (tgt := 20) hx hb dX5_isOdd_7 (by decide) (fun c7 => ?_) (fun c7 => ?_)
  · rw [if_neg c7] at h
    refine lv_iload_n hx hb dX5_isOdd_20 rfl (lv_at hl 1 rfl) ?_
    refine lv_if_eq (tgt := 41) hx hb dX5_isOdd_21 (by decide) (fun c8 => ?_) (fun c8 => ?_)
    · rw [if_pos c8] at h
      refine lv_aload_n hx hb dX5_isOdd_41 rfl (lv_at hl 0 rfl) ?_
      refine vt_getR (r := 1) S hF hP (k := 0) (ci := 5) 0 (hlt _ (by decide)) rfl (by decide) rfl (by decide) rfl rfl (inC_X5 _) (List.mem_cons_of_mem _ fl_X5_12) dX5_isOdd_42 ?_
      refine lv_aload_n hx hb dX5_isOdd_45 rfl (lv_at hl 0 rfl) ?_
      refine vt_getR (r := 1) S hF hP (k := 0) (ci := 5) 0 (hlt _ (by decide)) rfl (by decide) rfl (by decide) rfl rfl (inC_X5 _) (List.mem_cons_of_mem _ fl_X5_12) dX5_isOdd_46 ?_
      refine vt_getL S hF hP (k := 3) (ci := 0) 1 (hlt _ (by decide)) rfl (by decide) rfl (by decide) rfl (inC_X0 _) (List.mem_cons_of_mem _ fl_X5_99) dX5_isOdd_49 ?_
      obtain ⟨q3, hq3, h⟩ := ob h
      refine vu_i hP (vu_V S hF hP (h := 1) (hlt _ (by decide)) rfl (by decide) rfl (c_X0_isOddByCycles l P hA hn w (gL w 1 3) hq3) ok_X0_isOddByCycles ml_X5_200 ⟨Nat.le_of_ble_eq_true rfl, Nat.le_of_ble_eq_true rfl⟩ rfl hl.1 rfl (Nat.le_of_ble_eq_true rfl) dX5_isOdd_52 ⟨Nat.le_of_ble_eq_true rfl, Nat.le_of_ble_eq_true rfl⟩) (fun H locs ho4 hP => ?_)
      obtain rfl := Option.some.inj h
      exact ve_xi (v := q3) S hF hP hr hk ho4 (by decide) (by decide) dX5_isOdd_55
    · rw [if_neg c8] at h
      refine lv_aload_n hx hb dX5_isOdd_24 rfl (lv_at hl 0 rfl) ?_
      refine vt_getR (r := 1) S hF hP (k := 0) (ci := 5) 0 (hlt _ (by decide)) rfl (by decide) rfl (by decide) rfl rfl (inC_X5 _) (List.mem_cons_of_mem _ fl_X5_12) dX5_isOdd_25 ?_
      refine lv_aload_n hx hb dX5_isOdd_28 rfl (lv_at hl 0 rfl) ?_
      refine vt_getR (r := 1) S hF hP (k := 0) (ci := 5) 0 (hlt _ (by decide)) rfl (by decide) rfl (by decide) rfl rfl (inC_X5 _) (List.mem_cons_of_mem _ fl_X5_12) dX5_isOdd_29 ?_
      refine vt_getL S hF hP (k := 3) (ci := 0) 1 (hlt _ (by decide)) rfl (by decide) rfl (by decide) rfl (inC_X0 _) (List.mem_cons_of_mem _ fl_X5_99) dX5_isOdd_32 ?_
      obtain ⟨q5, hq5, h⟩ := ob h
      refine vu_i hP (vu_V S hF hP (h := 1) (hlt _ (by decide)) rfl (by decide) rfl (c_X0_isOddByPairs l P hA hn w (gL w 1 3) hq5) ok_X0_isOddByPairs ml_X5_196 ⟨Nat.le_of_ble_eq_true rfl, Nat.le_of_ble_eq_true rfl⟩ rfl hl.1 rfl (Nat.le_of_ble_eq_true rfl) dX5_isOdd_35 ⟨Nat.le_of_ble_eq_true rfl, Nat.le_of_ble_eq_true rfl⟩) (fun H locs ho6 hP => ?_)
      refine lv_goto (tgt := 55) hx hb dX5_isOdd_38 (by decide) ?_
      obtain rfl := Option.some.inj h
      exact ve_xi (v := q5) S hF hP hr hk ho6 (by decide) (by decide) dX5_isOdd_55
  · rw [if_pos c7] at h
    obtain rfl := Option.some.inj h
    exact ve_thr4 hst S hF hP (is := 194) (text := "letters are alike, or the goal has others") (by decide +kernel) hl.1 hk hxt dX5_isOdd_10 dX5_isOdd_13 dX5_isOdd_14 dX5_isOdd_16 dX5_isOdd_19 ⟨Nat.le_of_ble_eq_true rfl, Nat.le_of_ble_eq_true rfl, Nat.le_of_ble_eq_true rfl, Nat.le_of_ble_eq_true rfl⟩ (by decide) (by decide)
set_option maxRecDepth 100000 in
set_option maxHeartbeats 4000000 in
theorem c_X5_home (l : Launch) (P : Pl) (hA : Adr P) (hn : 26 ≤ P.2.2.2.1) (w : Wo) {r : Int32} (h : F_X5_home w = some r) : CtI l P yX5_home cX5_home 1 (some .int) 2 [.ref (P.2.1 0)] w r w := by
  have hlt : ∀ h, h < 26 → h < P.2.2.2.1 := fun h q => Nat.lt_of_lt_of_le q hn
  refine vs_met hA (by decide +kernel) (Nat.le_of_ble_eq_true rfl) (fun p e s m args below meth c ls S hF hP hl hr hk => ?_)
  have hx := S.1
  have hb := S.2.1
  replace hl : lv_has ls 1 [(0, .ref (P.2.1 0))] := hl
  unfold F_X5_home at h
  refine lv_aload_n hx hb dX5_home_0 rfl (lv_at hl 0 rfl) ?_
  refine vt_getR (r := 1) S hF hP (k := 0) (ci := 5) 0 (hlt _ (by decide)) rfl (by decide) rfl (by decide) rfl rfl (inC_X5 _) (List.mem_cons_of_mem _ fl_X5_12) dX5_home_1 ?_
  refine lv_aload_n hx hb dX5_home_4 rfl (lv_at hl 0 rfl) ?_
  refine vt_getR (r := 1) S hF hP (k := 0) (ci := 5) 0 (hlt _ (by decide)) rfl (by decide) rfl (by decide) rfl rfl (inC_X5 _) (List.mem_cons_of_mem _ fl_X5_12) dX5_home_5 ?_
  refine vt_getL S hF hP (k := 2) (ci := 0) 1 (hlt _ (by decide)) rfl (by decide) rfl (by decide) rfl (inC_X0 _) (List.mem_cons_of_mem _ fl_X5_83) dX5_home_8 ?_
  obtain ⟨q1, hq1, h⟩ := ob h
  refine vu_i hP (vu_V S hF hP (h := 1) (hlt _ (by decide)) rfl (by decide) rfl (c_X0_atHome l P hA hn w (gL w 1 2) hq1) ok_X0_atHome ml_X5_102 ⟨Nat.le_of_ble_eq_true rfl, Nat.le_of_ble_eq_true rfl⟩ rfl hl.1 rfl (Nat.le_of_ble_eq_true rfl) dX5_home_11 ⟨Nat.le_of_ble_eq_true rfl, Nat.le_of_ble_eq_true rfl⟩) (fun H locs ho2 hP => ?_)
  obtain rfl := Option.some.inj h
  exact ve_i (v := q1) S hF hP hr hk rfl dX5_home_14
set_option maxRecDepth 100000 in
set_option maxHeartbeats 4000000 in
theorem c_X5_would (l : Launch) (P : Pl) (hA : Adr P) (hn : 26 ≤ P.2.2.2.1) (hst : l.stackTraces = false) (w : Wo) (x1 : Int32) {r : (Nat × Wo) ⊕ (Int32 × Wo)} (h : F_X5_would w x1 = some r) : CxI l P yX5_would cX5_would 2 (some .int) 7 1 [.ref (P.2.1 0), .int x1] w r := by
  have hlt : ∀ h, h < 26 → h < P.2.2.2.1 := fun h q => Nat.lt_of_lt_of_le q hn
  refine vs_vx hA (by decide +kernel) (Nat.le_of_ble_eq_true rfl) (fun p e s m args below meth c ls S hF hP hl hr hk hxt => ?_)
  have hx := S.1
  have hb := S.2.1
  replace hl : lv_has ls 2 [(0, .ref (P.2.1 0)), (1, .int x1)] := hl
  unfold F_X5_would at h
  refine lv_aload_n hx hb dX5_would_0 rfl (lv_at hl 0 rfl) ?_
  refine vt_getR (r := 1) S hF hP (k := 0) (ci := 5) 0 (hlt _ (by decide)) rfl (by decide) rfl (by decide) rfl rfl (inC_X5 _) (List.mem_cons_of_mem _ fl_X5_12) dX5_would_1 ?_
  refine lv_iload_n hx hb dX5_would_4 rfl (lv_at hl 1 rfl) ?_
  refine vu_i hP (vu_V S hF hP (h := 1) (hlt _ (by decide)) rfl (by decide) rfl (c_X0_hasTurn l P hA hn w x1) ok_X0_hasTurn ml_X5_203 ⟨Nat.le_of_ble_eq_true rfl, Nat.le_of_ble_eq_true rfl⟩ rfl hl.1 rfl (Nat.le_of_ble_eq_true rfl) dX5_would_5 ⟨Nat.le_of_ble_eq_true rfl, Nat.le_of_ble_eq_true rfl⟩) (fun H locs ho1 hP => ?_)
  obtain ⟨q2, hq2, h⟩ := ob h
  refine vu_xv hP (vu_SX S hF hP (c_X5_needIndex l P hA hn hst w (F_X0_hasTurn w x1) hq2) ok_X5_needIndex ml_X5_146 ⟨Nat.le_of_ble_eq_true rfl, Nat.le_of_ble_eq_true rfl⟩ rfl hl.1 rfl (Nat.le_of_ble_eq_true rfl) dX5_would_8 ⟨Nat.le_of_ble_eq_true rfl, Nat.le_of_ble_eq_true rfl⟩) (fun H locs u ce q9 ho hP e1 e2 e3 => ?_) (fun H locs uv3 ho hP => ?_)
  · subst ho
    obtain rfl := Option.some.inj h
    exact ve_out hF hP hk hxt e1 e2 e3 (by decide) (by decide)
  · subst ho
    rw [Sum.elim_inr] at h
    refine lv_aload_n hx hb dX5_would_11 rfl (lv_at hl 0 rfl) ?_
    refine vt_getR (r := 1) S hF hP (k := 0) (ci := 5) 0 (hlt _ (by decide)) rfl (by decide) rfl (by decide) rfl rfl (inC_X5 _) (List.mem_cons_of_mem _ fl_X5_12) dX5_would_12 ?_
    refine lv_aload_n hx hb dX5_would_15 rfl (lv_at hl 0 rfl) ?_
    refine vt_getR (r := 1) S hF hP (k := 0) (ci := 5) 0 (hlt _ (by decide)) rfl (by decide) rfl (by decide) rfl rfl (inC_X5 _) (List.mem_cons_of_mem _ fl_X5_12) dX5_would_16 ?_
    refine lv_aload_n hx hb dX5_would_19 rfl (lv_at hl 0 rfl) ?_
    refine vt_getR (r := 1) S hF hP (k := 0) (ci := 5) 0 (hlt _ (by decide)) rfl (by decide) rfl (by decide) rfl rfl (inC_X5 _) (List.mem_cons_of_mem _ fl_X5_12) dX5_would_20 ?_
    refine vt_getL S hF hP (k := 2) (ci := 0) 1 (hlt _ (by decide)) rfl (by decide) rfl (by decide) rfl (inC_X0 _) (List.mem_cons_of_mem _ fl_X5_83) dX5_would_23 ?_
    refine lv_iload_n hx hb dX5_would_26 rfl (lv_at hl 1 rfl) ?_
    obtain ⟨q4, hq4, h⟩ := ob h
    refine vu_l hP (vu_V S hF hP (h := 1) (hlt _ (by decide)) rfl (by decide) rfl (c_X0_turned l P hA hn uv3 (gL uv3 1 2) x1 hq4) ok_X0_turned ml_X5_206 ⟨Nat.le_of_ble_eq_true rfl, Nat.le_of_ble_eq_true rfl⟩ rfl hl.1 rfl (Nat.le_of_ble_eq_true rfl) dX5_would_27 ⟨Nat.le_of_ble_eq_true rfl, Nat.le_of_ble_eq_true rfl⟩) (fun H locs hP => ?_)
    obtain ⟨q5, hq5, h⟩ := ob h
    refine vu_i hP (vu_V S hF hP (h := 1) (hlt _ (by decide)) rfl (by decide) rfl (c_X0_atHome l P hA hn uv3 q4 hq5) ok_X0_atHome ml_X5_102 ⟨Nat.le_of_ble_eq_true rfl, Nat.le_of_ble_eq_true rfl⟩ rfl hl.1 rfl (Nat.le_of_ble_eq_true rfl) dX5_would_30 ⟨Nat.le_of_ble_eq_true rfl, Nat.le_of_ble_eq_true rfl⟩) (fun H locs ho6 hP => ?_)
    obtain rfl := Option.some.inj h
    exact ve_xi (v := q5) S hF hP hr hk rfl (by decide) (by decide) dX5_would_33
set_option maxRecDepth 100000 in
set_option maxHeartbeats 4000000 in
theorem c_X0_bestTurn (l : Launch) (P : Pl) (hA : Adr P) (hn : 26 ≤ P.2.2.2.1) (w : Wo) {r : Int32} (h : F_X0_bestTurn w = some r) : CtI l P yX0_bestTurn cX0_bestTurn 5 (some .int) 2 [.ref (P.2.1 1)] w r w := by
  have hlt : ∀ h, h < 26 → h < P.2.2.2.1 := fun h q => Nat.lt_of_lt_of_le q hn
  refine vs_met hA (by decide +kernel) (Nat.le_of_ble_eq_true rfl) (fun p e s m args below meth c ls S hF hP hl hr hk => ?_)
  have hx := S.1
  have hb := S.2.1
  replace hl : lv_has ls 5 [(0, .ref (P.2.1 1))] := hl
  have hL6 : ∀ (n : Nat) (x1 : Int32) (x2 : Int32) (x3 : Int32), jl3 (B_X0_bestTurn_6 w) n x1 x2 x3 = some r → ∀ (H : Heap) (locs : List Loc) (ls : Array Slot), St P s w H locs → lv_has ls 5 [(0, .ref (P.2.1 1)), (1, .int x1), (2, .int x2), (3, .int x3)] → W p l e (rmU 2 0 0) s m args below meth c H locs 0 0 (QI P (some .int) r w below args s) (F0 m 6 ls []) := by
    intro n
    induction n with
    | zero =>
      intro x1 x2 x3 h
      cases h
    | succ n ih6 =>
      intro x1 x2 x3 h H locs ls hP hl
      replace h : B_X0_bestTurn_6 w (jl3 (B_X0_bestTurn_6 w) n) x1 x2 x3 = some r := h
      revert h ih6
      generalize jl3 (B_X0_bestTurn_6 w) n = k6
      intro ih6 h
      have hB52 : ∀ (x1 : Int32) (x2 : Int32) (x3 : Int32), B_X0_bestTurn_52 k6 w x1 x2 x3 = some r → ∀ (H : Heap) (locs : List Loc) (ls : Array Slot), St P s w H locs → lv_has ls 5 [(0, .ref (P.2.1 1)), (1, .int x1), (2, .int x2), (3, .int x3)] → W p l e (rmU 2 0 0) s m args below meth c H locs 0 0 (QI P (some .int) r w below args s) (F0 m 52 ls []) := by
        intro x1 x2 x3 h H locs ls hP hl
        unfold B_X0_bestTurn_52 at h
        refine lv_iinc (v := (x3 + 1)) (lv' := [(3, .int (x3 + 1)), (0, .ref (P.2.1 1)), (1, .int x1), (2, .int x2)]) hx hb dX0_bestTurn_52 hl (k := 3) rfl rfl (by decide) rfl (fun ls hl => ?_)
        refine lv_goto (tgt := 6) hx hb dX0_bestTurn_55 (by decide) ?_
        exact ih6 _ _ _ h _ _ _ hP (lv_sub hl [1, 2, 3, 0] rfl)
      have hB39 : ∀ (x1 : Int32) (x2 : Int32) (x3 : Int32) (t0 : Int32), B_X0_bestTurn_39 k6 w x1 x2 x3 t0 = some r → ∀ (H : Heap) (locs : List Loc) (ls : Array Slot), St P s w H locs → lv_has ls 5 [(0, .ref (P.2.1 1)), (1, .int x1), (2, .int x2), (3, .int x3)] → W p l e (rmU 2 0 0) s m args below meth c H locs 0 0 (QI P (some .int) r w below args s) (F0 m 39 ls [.int t0]) := by
        intro x1 x2 x3 t0 h H locs ls hP hl
        unfold B_X0_bestTurn_39 at h
        refine lv_istore (lv' := [(4, .int t0), (0, .ref (P.2.1 1)), (1, .int x1), (2, .int x2), (3, .int x3)]) hx hb dX0_bestTurn_39 hl (by decide) rfl (fun ls hl => ?_)
        refine lv_iload hx hb dX0_bestTurn_41 (lv_at hl 0 rfl) ?_
        refine lv_iload_n hx hb dX0_bestTurn_43 rfl (lv_at hl 3 rfl) ?_
        refine lv_icmp_le (tgt := 52) hx hb dX0_bestTurn_44 (by decide) (fun c7 => ?_) (fun c7 => ?_)
        · rw [if_pos c7] at h
          exact hB52 _ _ _ h _ _ _ hP (lv_sub hl [1, 2, 3, 4] rfl)
        · rw [if_neg c7] at h
          refine lv_iload hx hb dX0_bestTurn_47 (lv_at hl 0 rfl) ?_
          refine lv_istore_n (lv' := [(2, .int t0), (4, .int t0), (0, .ref (P.2.1 1)), (1, .int x1), (3, .int x3)]) hx hb dX0_bestTurn_49 rfl hl (by decide) rfl (fun ls hl => ?_)
          refine lv_iload_n hx hb dX0_bestTurn_50 rfl (lv_at hl 4 rfl) ?_
          refine lv_istore_n (lv' := [(1, .int x3), (2, .int t0), (4, .int t0), (0, .ref (P.2.1 1)), (3, .int x3)]) hx hb dX0_bestTurn_51 rfl hl (by decide) rfl (fun ls hl => ?_)
          exact hB52 _ _ _ h _ _ _ hP (lv_sub hl [3, 0, 1, 4] rfl)
      unfold B_X0_bestTurn_6 at h
      refine lv_iload_n hx hb dX0_bestTurn_6 rfl (lv_at hl 3 rfl) ?_
      refine lv_aload_n hx hb dX0_bestTurn_7 rfl (lv_at hl 0 rfl) ?_
      refine vu_i hP (vu_V S hF hP (h := 1) (hlt _ (by decide)) rfl (by decide) rfl (c_X0_turns l P hA hn w) ok_X0_turns ml_X0_57 ⟨Nat.le_of_ble_eq_true rfl, Nat.le_of_ble_eq_true rfl⟩ rfl hl.1 rfl (Nat.le_of_ble_eq_true rfl) dX0_bestTurn_8 ⟨Nat.le_of_ble_eq_true rfl, Nat.le_of_ble_eq_true rfl⟩) (fun H locs ho1 hP => ?_)
      refine lv_icmp_ge (tgt := 58) hx hb dX0_bestTurn_11 (by decide) (fun c8 => ?_) (fun c8 => ?_)
      · rw [if_pos c8] at h
        refine lv_iload_n hx hb dX0_bestTurn_58 rfl (lv_at hl 1 rfl) ?_
        obtain rfl := Option.some.inj h
        exact ve_i (v := x1) S hF hP hr hk rfl dX0_bestTurn_59
      · rw [if_neg c8] at h
        refine lv_aload_n hx hb dX0_bestTurn_14 rfl (lv_at hl 0 rfl) ?_
        refine lv_iload_n hx hb dX0_bestTurn_15 rfl (lv_at hl 3 rfl) ?_
        obtain ⟨q2, hq2, h⟩ := ob h
        refine vu_i hP (vu_V S hF hP (h := 1) (hlt _ (by decide)) rfl (by decide) rfl (c_X0_canTurn l P hA hn w x3 hq2) ok_X0_canTurn ml_X0_102 ⟨Nat.le_of_ble_eq_true rfl, Nat.le_of_ble_eq_true rfl⟩ rfl hl.1 rfl (Nat.le_of_ble_eq_true rfl) dX0_bestTurn_16 ⟨Nat.le_of_ble_eq_true rfl, Nat.le_of_ble_eq_true rfl⟩) (fun H locs ho3 hP => ?_)
        refine lv_if_eq (tgt := 38) hx hb dX0_bestTurn_19 (by decide) (fun c9 => ?_) (fun c9 => ?_)
        · rw [if_pos c9] at h
          refine lv_iconst (v := (-1)) hx hb dX0_bestTurn_38 (by decide) ?_
          exact hB39 _ _ _ _ h _ _ _ hP (lv_sub hl [0, 1, 2, 3] rfl)
        · rw [if_neg c9] at h
          refine lv_aload_n hx hb dX0_bestTurn_22 rfl (lv_at hl 0 rfl) ?_
          refine lv_aload_n hx hb dX0_bestTurn_23 rfl (lv_at hl 0 rfl) ?_
          refine lv_aload_n hx hb dX0_bestTurn_24 rfl (lv_at hl 0 rfl) ?_
          refine vt_getL S hF hP (k := 2) (ci := 0) 1 (hlt _ (by decide)) rfl (by decide) rfl (by decide) rfl (inC_X0 _) (List.mem_cons_of_mem _ fl_X0_18) dX0_bestTurn_25 ?_
          refine lv_iload_n hx hb dX0_bestTurn_28 rfl (lv_at hl 3 rfl) ?_
          obtain ⟨q4, hq4, h⟩ := ob h
          refine vu_l hP (vu_V S hF hP (h := 1) (hlt _ (by decide)) rfl (by decide) rfl (c_X0_turned l P hA hn w (gL w 1 2) x3 hq4) ok_X0_turned ml_X0_86 ⟨Nat.le_of_ble_eq_true rfl, Nat.le_of_ble_eq_true rfl⟩ rfl hl.1 rfl (Nat.le_of_ble_eq_true rfl) dX0_bestTurn_29 ⟨Nat.le_of_ble_eq_true rfl, Nat.le_of_ble_eq_true rfl⟩) (fun H locs hP => ?_)
          obtain ⟨q5, hq5, h⟩ := ob h
          refine vu_i hP (vu_V S hF hP (h := 1) (hlt _ (by decide)) rfl (by decide) rfl (c_X0_atHome l P hA hn w q4 hq5) ok_X0_atHome ml_X0_128 ⟨Nat.le_of_ble_eq_true rfl, Nat.le_of_ble_eq_true rfl⟩ rfl hl.1 rfl (Nat.le_of_ble_eq_true rfl) dX0_bestTurn_32 ⟨Nat.le_of_ble_eq_true rfl, Nat.le_of_ble_eq_true rfl⟩) (fun H locs ho6 hP => ?_)
          refine lv_goto (tgt := 39) hx hb dX0_bestTurn_35 (by decide) ?_
          exact hB39 _ _ _ _ h _ _ _ hP (lv_sub hl [0, 1, 2, 3] rfl)
  unfold F_X0_bestTurn at h
  refine lv_iconst (v := (-1)) hx hb dX0_bestTurn_0 (by decide) ?_
  refine lv_istore_n (lv' := [(1, .int (-1)), (0, .ref (P.2.1 1))]) hx hb dX0_bestTurn_1 rfl hl (by decide) rfl (fun ls hl => ?_)
  refine lv_iconst (v := (-1)) hx hb dX0_bestTurn_2 (by decide) ?_
  refine lv_istore_n (lv' := [(2, .int (-1)), (1, .int (-1)), (0, .ref (P.2.1 1))]) hx hb dX0_bestTurn_3 rfl hl (by decide) rfl (fun ls hl => ?_)
  refine lv_iconst (v := 0) hx hb dX0_bestTurn_4 (by decide) ?_
  refine lv_istore_n (lv' := [(3, .int 0), (2, .int (-1)), (1, .int (-1)), (0, .ref (P.2.1 1))]) hx hb dX0_bestTurn_5 rfl hl (by decide) rfl (fun ls hl => ?_)
  exact hL6 fu _ _ _ h _ _ _ hP (lv_sub hl [3, 2, 1, 0] rfl)
set_option maxRecDepth 100000 in
set_option maxHeartbeats 4000000 in
theorem c_X5_best (l : Launch) (P : Pl) (hA : Adr P) (hn : 26 ≤ P.2.2.2.1) (hst : l.stackTraces = false) (w : Wo) {r : (Nat × Wo) ⊕ (Int32 × Wo)} (h : F_X5_best w = some r) : CxI l P yX5_best cX5_best 2 (some .int) 6 1 [.ref (P.2.1 0)] w r := by
  have hlt : ∀ h, h < 26 → h < P.2.2.2.1 := fun h q => Nat.lt_of_lt_of_le q hn
  refine vs_vx hA (by decide +kernel) (Nat.le_of_ble_eq_true rfl) (fun p e s m args below meth c ls S hF hP hl hr hk hxt => ?_)
  have hx := S.1
  have hb := S.2.1
  replace hl : lv_has ls 2 [(0, .ref (P.2.1 0))] := hl
  unfold F_X5_best at h
  refine lv_aload_n hx hb dX5_best_0 rfl (lv_at hl 0 rfl) ?_
  refine vt_getR (r := 1) S hF hP (k := 0) (ci := 5) 0 (hlt _ (by decide)) rfl (by decide) rfl (by decide) rfl rfl (inC_X5 _) (List.mem_cons_of_mem _ fl_X5_12) dX5_best_1 ?_
  obtain ⟨q1, hq1, h⟩ := ob h
  refine vu_i hP (vu_V S hF hP (h := 1) (hlt _ (by decide)) rfl (by decide) rfl (c_X0_bestTurn l P hA hn w hq1) ok_X0_bestTurn ml_X5_210 ⟨Nat.le_of_ble_eq_true rfl, Nat.le_of_ble_eq_true rfl⟩ rfl hl.1 rfl (Nat.le_of_ble_eq_true rfl) dX5_best_4 ⟨Nat.le_of_ble_eq_true rfl, Nat.le_of_ble_eq_true rfl⟩) (fun H locs ho2 hP => ?_)
  refine lv_istore_n (lv' := [(1, .int q1), (0, .ref (P.2.1 0))]) hx hb dX5_best_7 rfl hl (by decide) rfl (fun ls hl => ?_)
  refine lv_iload_n hx hb dX5_best_8 rfl (lv_at hl 0 rfl) ?_
  refine lv_if_ge (tgt := 22) hx hb dX5_best_9 (by decide) (fun c3 => ?_) (fun c3 => ?_)
  · rw [if_pos c3] at h
    refine lv_iload_n hx hb dX5_best_22 rfl (lv_at hl 0 rfl) ?_
    obtain rfl := Option.some.inj h
    exact ve_xi (v := q1) S hF hP hr hk rfl (by decide) (by decide) dX5_best_23
  · rw [if_neg c3] at h
    obtain rfl := Option.some.inj h
    exact ve_thr4 hst S hF hP (is := 213) (text := "all lines are barred") (by decide +kernel) hl.1 hk hxt dX5_best_12 dX5_best_15 dX5_best_16 dX5_best_18 dX5_best_21 ⟨Nat.le_of_ble_eq_true rfl, Nat.le_of_ble_eq_true rfl, Nat.le_of_ble_eq_true rfl, Nat.le_of_ble_eq_true rfl⟩ (by decide) (by decide)
set_option maxRecDepth 100000 in
set_option maxHeartbeats 4000000 in
theorem c_X0_placeBehind (l : Launch) (P : Pl) (hA : Adr P) (hn : 26 ≤ P.2.2.2.1) (w : Wo) (x1 : Int32) (x2 : Int32) (x3 : Int32) {r : Int32} (h : F_X0_placeBehind w x1 x2 x3 = some r) : CtI l P yX0_placeBehind cX0_placeBehind 7 (some .int) 2 [.ref (P.2.1 1), .int x1, .int x2, .int x3] w r w := by
  have hlt : ∀ h, h < 26 → h < P.2.2.2.1 := fun h q => Nat.lt_of_lt_of_le q hn
  refine vs_met hA (by decide +kernel) (Nat.le_of_ble_eq_true rfl) (fun p e s m args below meth c ls S hF hP hl hr hk => ?_)
  have hx := S.1
  have hb := S.2.1
  replace hl : lv_has ls 7 [(0, .ref (P.2.1 1)), (1, .int x1), (2, .int x2), (3, .int x3)] := hl
  have hB33 : ∀ (x4 : Int64), B_X0_placeBehind_33 w x4 = some r → ∀ (H : Heap) (locs : List Loc) (ls : Array Slot), St P s w H locs → lv_has ls 7 [(0, .ref (P.2.1 1)), (4, .long x4)] → W p l e (rmU 2 0 0) s m args below meth c H locs 0 0 (QI P (some .int) r w below args s) (F0 m 33 ls []) := by
    intro x4 h H locs ls hP hl
    unfold B_X0_placeBehind_33 at h
    refine lv_aload_n hx hb dX0_placeBehind_33 rfl (lv_at hl 0 rfl) ?_
    refine lv_lload hx hb dX0_placeBehind_34 (lv_at hl 1 rfl) ?_
    refine lv_bipush (v := 15) hx hb dX0_placeBehind_36 (by decide) ?_
    obtain ⟨q1, hq1, h⟩ := ob h
    refine vu_i hP (vu_V S hF hP (h := 1) (hlt _ (by decide)) rfl (by decide) rfl (c_X0_placeOf l P hA hn w x4 15 hq1) ok_X0_placeOf ml_X0_125 ⟨Nat.le_of_ble_eq_true rfl, Nat.le_of_ble_eq_true rfl⟩ rfl hl.1 rfl (Nat.le_of_ble_eq_true rfl) dX0_placeBehind_38 ⟨Nat.le_of_ble_eq_true rfl, Nat.le_of_ble_eq_true rfl⟩) (fun H locs ho2 hP => ?_)
    obtain rfl := Option.some.inj h
    exact ve_i (v := q1) S hF hP hr hk rfl dX0_placeBehind_41
  have hL12 : ∀ (x2 : Int32) (x3 : Int32) (n : Nat) (x4 : Int64) (x6 : Int32), jl2 (B_X0_placeBehind_12 w x2 x3) n x4 x6 = some r → ∀ (H : Heap) (locs : List Loc) (ls : Array Slot), St P s w H locs → lv_has ls 7 [(0, .ref (P.2.1 1)), (2, .int x2), (3, .int x3), (4, .long x4), (6, .int x6)] → W p l e (rmU 2 0 0) s m args below meth c H locs 0 0 (QI P (some .int) r w below args s) (F0 m 12 ls []) := by
    intro x2 x3
    intro n
    induction n with
    | zero =>
      intro x4 x6 h
      cases h
    | succ n ih12 =>
      intro x4 x6 h H locs ls hP hl
      replace h : B_X0_placeBehind_12 w x2 x3 (jl2 (B_X0_placeBehind_12 w x2 x3) n) x4 x6 = some r := h
      revert h ih12
      generalize jl2 (B_X0_placeBehind_12 w x2 x3) n = k12
      intro ih12 h
      unfold B_X0_placeBehind_12 at h
      refine lv_iload hx hb dX0_placeBehind_12 (lv_at hl 4 rfl) ?_
      refine lv_iload_n hx hb dX0_placeBehind_14 rfl (lv_at hl 2 rfl) ?_
      refine lv_icmp_ge (tgt := 33) hx hb dX0_placeBehind_15 (by decide) (fun c4 => ?_) (fun c4 => ?_)
      · rw [if_pos c4] at h
        exact hB33 _ h _ _ _ hP (lv_sub hl [0, 3] rfl)
      · rw [if_neg c4] at h
        refine lv_aload_n hx hb dX0_placeBehind_18 rfl (lv_at hl 0 rfl) ?_
        refine lv_lload hx hb dX0_placeBehind_19 (lv_at hl 3 rfl) ?_
        refine lv_iload_n hx hb dX0_placeBehind_21 rfl (lv_at hl 1 rfl) ?_
        obtain ⟨q3, hq3, h⟩ := ob h
        refine vu_l hP (vu_V S hF hP (h := 1) (hlt _ (by decide)) rfl (by decide) rfl (c_X0_turned l P hA hn w x4 x2 hq3) ok_X0_turned ml_X0_86 ⟨Nat.le_of_ble_eq_true rfl, Nat.le_of_ble_eq_true rfl⟩ rfl hl.1 rfl (Nat.le_of_ble_eq_true rfl) dX0_placeBehind_22 ⟨Nat.le_of_ble_eq_true rfl, Nat.le_of_ble_eq_true rfl⟩) (fun H locs hP => ?_)
        refine lv_lstore (lv' := [(4, .long q3), (0, .ref (P.2.1 1)), (2, .int x2), (3, .int x3), (6, .int x6)]) hx hb dX0_placeBehind_25 hl (by decide) rfl (fun ls hl => ?_)
        refine lv_iinc (v := (x6 + 1)) (lv' := [(6, .int (x6 + 1)), (4, .long q3), (0, .ref (P.2.1 1)), (2, .int x2), (3, .int x3)]) hx hb dX0_placeBehind_27 hl (k := 4) rfl rfl (by decide) rfl (fun ls hl => ?_)
        refine lv_goto (tgt := 12) hx hb dX0_placeBehind_30 (by decide) ?_
        exact ih12 _ _ h _ _ _ hP (lv_sub hl [2, 3, 4, 1, 0] rfl)
  have hB9 : ∀ (x2 : Int32) (x3 : Int32) (x4 : Int64), B_X0_placeBehind_9 w x2 x3 x4 = some r → ∀ (H : Heap) (locs : List Loc) (ls : Array Slot), St P s w H locs → lv_has ls 7 [(0, .ref (P.2.1 1)), (2, .int x2), (3, .int x3), (4, .long x4)] → W p l e (rmU 2 0 0) s m args below meth c H locs 0 0 (QI P (some .int) r w below args s) (F0 m 9 ls []) := by
    intro x2 x3 x4 h H locs ls hP hl
    unfold B_X0_placeBehind_9 at h
    refine lv_iconst (v := 0) hx hb dX0_placeBehind_9 (by decide) ?_
    refine lv_istore (lv' := [(6, .int 0), (0, .ref (P.2.1 1)), (2, .int x2), (3, .int x3), (4, .long x4)]) hx hb dX0_placeBehind_10 hl (by decide) rfl (fun ls hl => ?_)
    exact hL12 _ _ fu _ _ h _ _ _ hP (lv_sub hl [1, 2, 3, 4, 0] rfl)
  unfold F_X0_placeBehind at h
  refine lv_ldc2 (v := 15) hx hb S.2.2.2.1 (S.2.2.2.2 _ (List.mem_cons_of_mem _ cl_X0_82)) dX0_placeBehind_0 ?_
  refine lv_iconst (v := 4) hx hb dX0_placeBehind_3 (by decide) ?_
  refine lv_iload_n hx hb dX0_placeBehind_4 rfl (lv_at hl 1 rfl) ?_
  refine lv_imul hx hb dX0_placeBehind_5 ?_
  refine lv_lshl hx hb dX0_placeBehind_6 rfl ?_
  refine lv_lstore (lv' := [(4, .long (jlshl (15 : Int64) ((4 : Int32) * x1))), (0, .ref (P.2.1 1)), (1, .int x1), (2, .int x2), (3, .int x3)]) hx hb dX0_placeBehind_7 hl (by decide) rfl (fun ls hl => ?_)
  exact hB9 _ _ _ h _ _ _ hP (lv_sub hl [1, 3, 4, 0] rfl)
set_option maxRecDepth 100000 in
set_option maxHeartbeats 4000000 in
theorem c_X5_where (l : Launch) (P : Pl) (hA : Adr P) (hn : 26 ≤ P.2.2.2.1) (hst : l.stackTraces = false) (w : Wo) (x1 : Int32) (x2 : Int32) (x3 : Int32) {r : (Nat × Wo) ⊕ (Int32 × Wo)} (h : F_X5_where w x1 x2 x3 = some r) : CxI l P yX5_where cX5_where 4 (some .int) 7 2 [.ref (P.2.1 0), .int x1, .int x2, .int x3] w r := by
  have hlt : ∀ h, h < 26 → h < P.2.2.2.1 := fun h q => Nat.lt_of_lt_of_le q hn
  refine vs_vx hA (by decide +kernel) (Nat.le_of_ble_eq_true rfl) (fun p e s m args below meth c ls S hF hP hl hr hk hxt => ?_)
  have hx := S.1
  have hb := S.2.1
  replace hl : lv_has ls 4 [(0, .ref (P.2.1 0)), (1, .int x1), (2, .int x2), (3, .int x3)] := hl
  have hB40 : ∀ (w : Wo), B_X5_where_40 w = some r → ∀ (H : Heap) (locs : List Loc) (ls : Array Slot), St P s w H locs → lv_has ls 4 [] → W p l e (rmU 7 2 (6 * 2)) s m args below meth c H locs 1 6 (XI P 2 r below args s) (F0 m 40 ls []) := by
    intro w h H locs ls hP hl
    unfold B_X5_where_40 at h
    obtain rfl := Option.some.inj h
    exact ve_thr hst S hF hP (fun _ z => List.mem_cons_of_mem _ z) (is := 215) (text := "the times are not from 0 to 99") rfl th_174_178.1 th_174_178.2.1 th_174_178.2.2.1 (by decide +kernel) th_174_178.2.2.2.1 th_174_178.2.2.2.2 hl.1 hk hxt dX5_where_40 dX5_where_43 dX5_where_44 dX5_where_46 dX5_where_49 ⟨Nat.le_of_ble_eq_true rfl, Nat.le_of_ble_eq_true rfl, Nat.le_of_ble_eq_true rfl, Nat.le_of_ble_eq_true rfl⟩ (by decide) (by decide)
  have hB27 : ∀ (w : Wo) (x1 : Int32) (x2 : Int32) (x3 : Int32) (t0 : Int32), B_X5_where_27 w x1 x2 x3 t0 = some r → ∀ (H : Heap) (locs : List Loc) (ls : Array Slot), St P s w H locs → lv_has ls 4 [(0, .ref (P.2.1 0)), (1, .int x1), (2, .int x2), (3, .int x3)] → W p l e (rmU 7 2 (6 * 2)) s m args below meth c H locs 0 0 (XI P 2 r below args s) (F0 m 27 ls [.int t0]) := by
    intro w x1 x2 x3 t0 h H locs ls hP hl
    unfold B_X5_where_27 at h
    obtain ⟨q2, hq2, h⟩ := ob h
    refine vu_xv hP (vu_SX S hF hP (c_X5_needIndex l P hA hn hst w t0 hq2) ok_X5_needIndex ml_X5_146 ⟨Nat.le_of_ble_eq_true rfl, Nat.le_of_ble_eq_true rfl⟩ rfl hl.1 rfl (Nat.le_of_ble_eq_true rfl) dX5_where_27 ⟨Nat.le_of_ble_eq_true rfl, Nat.le_of_ble_eq_true rfl⟩) (fun H locs u ce q9 ho hP e1 e2 e3 => ?_) (fun H locs uv3 ho hP => ?_)
    · subst ho
      obtain rfl := Option.some.inj h
      exact ve_out hF hP hk hxt e1 e2 e3 (by decide) (by decide)
    · subst ho
      rw [Sum.elim_inr] at h
      refine lv_iload_n hx hb dX5_where_30 rfl (lv_at hl 3 rfl) ?_
      refine lv_if_lt (tgt := 40) hx hb dX5_where_31 (by decide) (fun c7 => ?_) (fun c7 => ?_)
      · rw [if_pos c7] at h
        exact hB40 _ h _ _ _ hP (lv_sub hl [] rfl)
      · rw [if_neg c7] at h
        refine lv_iload_n hx hb dX5_where_34 rfl (lv_at hl 3 rfl) ?_
        refine lv_bipush (v := 99) hx hb dX5_where_35 (by decide) ?_
        refine lv_icmp_le (tgt := 50) hx hb dX5_where_37 (by decide) (fun c8 => ?_) (fun c8 => ?_)
        · rw [if_pos c8] at h
          refine lv_aload_n hx hb dX5_where_50 rfl (lv_at hl 0 rfl) ?_
          refine vt_getR (r := 1) S hF hP (k := 0) (ci := 5) 0 (hlt _ (by decide)) rfl (by decide) rfl (by decide) rfl rfl (inC_X5 _) (List.mem_cons_of_mem _ fl_X5_12) dX5_where_51 ?_
          refine lv_iload_n hx hb dX5_where_54 rfl (lv_at hl 1 rfl) ?_
          refine lv_iload_n hx hb dX5_where_55 rfl (lv_at hl 2 rfl) ?_
          refine lv_iload_n hx hb dX5_where_56 rfl (lv_at hl 3 rfl) ?_
          obtain ⟨q4, hq4, h⟩ := ob h
          refine vu_i hP (vu_V S hF hP (h := 1) (hlt _ (by decide)) rfl (by decide) rfl (c_X0_placeBehind l P hA hn uv3 x1 x2 x3 hq4) ok_X0_placeBehind ml_X5_217 ⟨Nat.le_of_ble_eq_true rfl, Nat.le_of_ble_eq_true rfl⟩ rfl hl.1 rfl (Nat.le_of_ble_eq_true rfl) dX5_where_57 ⟨Nat.le_of_ble_eq_true rfl, Nat.le_of_ble_eq_true rfl⟩) (fun H locs ho5 hP => ?_)
          obtain rfl := Option.some.inj h
          exact ve_xi (v := q4) S hF hP hr hk rfl (by decide) (by decide) dX5_where_60
        · rw [if_neg c8] at h
          exact hB40 _ h _ _ _ hP (lv_sub hl [] rfl)
  have hB26 : ∀ (w : Wo) (x1 : Int32) (x2 : Int32) (x3 : Int32), B_X5_where_26 w x1 x2 x3 = some r → ∀ (H : Heap) (locs : List Loc) (ls : Array Slot), St P s w H locs → lv_has ls 4 [(0, .ref (P.2.1 0)), (1, .int x1), (2, .int x2), (3, .int x3)] → W p l e (rmU 7 2 (6 * 2)) s m args below meth c H locs 0 0 (XI P 2 r below args s) (F0 m 26 ls []) := by
    intro w x1 x2 x3 h H locs ls hP hl
    unfold B_X5_where_26 at h
    refine lv_iconst (v := 0) hx hb dX5_where_26 (by decide) ?_
    exact hB27 _ _ _ _ _ h _ _ _ hP (lv_sub hl [0, 1, 2, 3] rfl)
  unfold F_X5_where at h
  refine lv_aload_n hx hb dX5_where_0 rfl (lv_at hl 0 rfl) ?_
  refine vt_getR (r := 1) S hF hP (k := 0) (ci := 5) 0 (hlt _ (by decide)) rfl (by decide) rfl (by decide) rfl rfl (inC_X5 _) (List.mem_cons_of_mem _ fl_X5_12) dX5_where_1 ?_
  refine lv_iload_n hx hb dX5_where_4 rfl (lv_at hl 1 rfl) ?_
  refine vu_i hP (vu_V S hF hP (h := 1) (hlt _ (by decide)) rfl (by decide) rfl (c_X0_hasPlace l P hA hn w x1) ok_X0_hasPlace ml_X5_143 ⟨Nat.le_of_ble_eq_true rfl, Nat.le_of_ble_eq_true rfl⟩ rfl hl.1 rfl (Nat.le_of_ble_eq_true rfl) dX5_where_5 ⟨Nat.le_of_ble_eq_true rfl, Nat.le_of_ble_eq_true rfl⟩) (fun H locs ho1 hP => ?_)
  refine lv_if_eq (tgt := 26) hx hb dX5_where_8 (by decide) (fun c9 => ?_) (fun c9 => ?_)
  · rw [if_pos c9] at h
    exact hB26 _ _ _ _ h _ _ _ hP (lv_sub hl [0, 1, 2, 3] rfl)
  · rw [if_neg c9] at h
    refine lv_aload_n hx hb dX5_where_11 rfl (lv_at hl 0 rfl) ?_
    refine vt_getR (r := 1) S hF hP (k := 0) (ci := 5) 0 (hlt _ (by decide)) rfl (by decide) rfl (by decide) rfl rfl (inC_X5 _) (List.mem_cons_of_mem _ fl_X5_12) dX5_where_12 ?_
    refine lv_iload_n hx hb dX5_where_15 rfl (lv_at hl 2 rfl) ?_
    refine vu_i hP (vu_V S hF hP (h := 1) (hlt _ (by decide)) rfl (by decide) rfl (c_X0_hasTurn l P hA hn w x2) ok_X0_hasTurn ml_X5_203 ⟨Nat.le_of_ble_eq_true rfl, Nat.le_of_ble_eq_true rfl⟩ rfl hl.1 rfl (Nat.le_of_ble_eq_true rfl) dX5_where_16 ⟨Nat.le_of_ble_eq_true rfl, Nat.le_of_ble_eq_true rfl⟩) (fun H locs ho6 hP => ?_)
    refine lv_if_eq (tgt := 26) hx hb dX5_where_19 (by decide) (fun c10 => ?_) (fun c10 => ?_)
    · rw [if_pos c10] at h
      exact hB26 _ _ _ _ h _ _ _ hP (lv_sub hl [0, 1, 2, 3] rfl)
    · rw [if_neg c10] at h
      refine lv_iconst (v := 1) hx hb dX5_where_22 (by decide) ?_
      refine lv_goto (tgt := 27) hx hb dX5_where_23 (by decide) ?_
      exact hB27 _ _ _ _ _ h _ _ _ hP (lv_sub hl [0, 1, 2, 3] rfl)
set_option maxRecDepth 100000 in
set_option maxHeartbeats 4000000 in
theorem c_X0_rowOf (l : Launch) (P : Pl) (hA : Adr P) (hn : 26 ≤ P.2.2.2.1) (w : Wo) (x1 : Int32) {r : Int32} (h : F_X0_rowOf w x1 = some r) : CtI l P yX0_rowOf cX0_rowOf 2 (some .int) 0 [.ref (P.2.1 1), .int x1] w r w := by
  have hlt : ∀ h, h < 26 → h < P.2.2.2.1 := fun h q => Nat.lt_of_lt_of_le q hn
  refine vs_met hA (by decide +kernel) (Nat.le_of_ble_eq_true rfl) (fun p e s m args below meth c ls S hF hP hl hr hk => ?_)
  have hx := S.1
  have hb := S.2.1
  replace hl : lv_has ls 2 [(0, .ref (P.2.1 1)), (1, .int x1)] := hl
  unfold F_X0_rowOf at h
  refine lv_aload_n hx hb dX0_rowOf_0 rfl (lv_at hl 0 rfl) ?_
  refine vt_getI S hF hP (k := 1) (ci := 0) 1 (hlt _ (by decide)) rfl (by decide) rfl (by decide) rfl (inC_X0 _) (List.mem_cons_of_mem _ fl_X0_15) dX0_rowOf_1 ?_
  refine lv_if_le (tgt := 16) hx hb dX0_rowOf_4 (by decide) (fun c1 => ?_) (fun c1 => ?_)
  · rw [if_pos c1] at h
    refine lv_iconst (v := 0) hx hb dX0_rowOf_16 (by decide) ?_
    obtain rfl := Option.some.inj h
    exact ve_i (v := 0) S hF hP hr hk rfl dX0_rowOf_17
  · rw [if_neg c1] at h
    refine lv_iload_n hx hb dX0_rowOf_7 rfl (lv_at hl 1 rfl) ?_
    refine lv_aload_n hx hb dX0_rowOf_8 rfl (lv_at hl 0 rfl) ?_
    refine vt_getI S hF hP (k := 1) (ci := 0) 1 (hlt _ (by decide)) rfl (by decide) rfl (by decide) rfl (inC_X0 _) (List.mem_cons_of_mem _ fl_X0_15) dX0_rowOf_9 ?_
    obtain ⟨c2, h⟩ := chk h
    refine lv_idiv hx hb dX0_rowOf_12 c2 ?_
    refine lv_goto (tgt := 17) hx hb dX0_rowOf_13 (by decide) ?_
    obtain rfl := Option.some.inj h
    exact ve_i (v := (x1 / (gI w 1 1))) S hF hP hr hk rfl dX0_rowOf_17
set_option maxRecDepth 100000 in
set_option maxHeartbeats 4000000 in
theorem c_X0_columnOf (l : Launch) (P : Pl) (hA : Adr P) (hn : 26 ≤ P.2.2.2.1) (w : Wo) (x1 : Int32) {r : Int32} (h : F_X0_columnOf w x1 = some r) : CtI l P yX0_columnOf cX0_columnOf 2 (some .int) 1 [.ref (P.2.1 1), .int x1] w r w := by
  have hlt : ∀ h, h < 26 → h < P.2.2.2.1 := fun h q => Nat.lt_of_lt_of_le q hn
  refine vs_met hA (by decide +kernel) (Nat.le_of_ble_eq_true rfl) (fun p e s m args below meth c ls S hF hP hl hr hk => ?_)
  have hx := S.1
  have hb := S.2.1
  replace hl : lv_has ls 2 [(0, .ref (P.2.1 1)), (1, .int x1)] := hl
  unfold F_X0_columnOf at h
  refine lv_iload_n hx hb dX0_columnOf_0 rfl (lv_at hl 1 rfl) ?_
  refine lv_aload_n hx hb dX0_columnOf_1 rfl (lv_at hl 0 rfl) ?_
  refine lv_iload_n hx hb dX0_columnOf_2 rfl (lv_at hl 1 rfl) ?_
  obtain ⟨q1, hq1, h⟩ := ob h
  refine vu_i hP (vu_V S hF hP (h := 1) (hlt _ (by decide)) rfl (by decide) rfl (c_X0_rowOf l P hA hn w x1 hq1) ok_X0_rowOf ml_X0_70 ⟨Nat.le_of_ble_eq_true rfl, Nat.le_of_ble_eq_true rfl⟩ rfl hl.1 rfl (Nat.le_of_ble_eq_true rfl) dX0_columnOf_3 ⟨Nat.le_of_ble_eq_true rfl, Nat.le_of_ble_eq_true rfl⟩) (fun H locs ho2 hP => ?_)
  refine lv_aload_n hx hb dX0_columnOf_6 rfl (lv_at hl 0 rfl) ?_
  refine vt_getI S hF hP (k := 1) (ci := 0) 1 (hlt _ (by decide)) rfl (by decide) rfl (by decide) rfl (inC_X0 _) (List.mem_cons_of_mem _ fl_X0_15) dX0_columnOf_7 ?_
  refine lv_imul hx hb dX0_columnOf_10 ?_
  refine lv_isub hx hb dX0_columnOf_11 ?_
  obtain rfl := Option.some.inj h
  exact ve_i (v := (x1 - (q1 * (gI w 1 1)))) S hF hP hr hk rfl dX0_columnOf_12
set_option maxRecDepth 100000 in
set_option maxHeartbeats 4000000 in
theorem c_X0_distance (l : Launch) (P : Pl) (hA : Adr P) (hn : 26 ≤ P.2.2.2.1) (w : Wo) (x1 : Int32) (x2 : Int32) {r : Int32} (h : F_X0_distance w x1 x2 = some r) : CtI l P yX0_distance cX0_distance 5 (some .int) 2 [.ref (P.2.1 1), .int x1, .int x2] w r w := by
  have hlt : ∀ h, h < 26 → h < P.2.2.2.1 := fun h q => Nat.lt_of_lt_of_le q hn
  refine vs_met hA (by decide +kernel) (Nat.le_of_ble_eq_true rfl) (fun p e s m args below meth c ls S hF hP hl hr hk => ?_)
  have hx := S.1
  have hb := S.2.1
  replace hl : lv_has ls 5 [(0, .ref (P.2.1 1)), (1, .int x1), (2, .int x2)] := hl
  unfold F_X0_distance at h
  refine lv_aload_n hx hb dX0_distance_0 rfl (lv_at hl 0 rfl) ?_
  refine lv_iload_n hx hb dX0_distance_1 rfl (lv_at hl 1 rfl) ?_
  obtain ⟨q1, hq1, h⟩ := ob h
  refine vu_i hP (vu_V S hF hP (h := 1) (hlt _ (by decide)) rfl (by decide) rfl (c_X0_rowOf l P hA hn w x1 hq1) ok_X0_rowOf ml_X0_70 ⟨Nat.le_of_ble_eq_true rfl, Nat.le_of_ble_eq_true rfl⟩ rfl hl.1 rfl (Nat.le_of_ble_eq_true rfl) dX0_distance_2 ⟨Nat.le_of_ble_eq_true rfl, Nat.le_of_ble_eq_true rfl⟩) (fun H locs ho2 hP => ?_)
  refine lv_aload_n hx hb dX0_distance_5 rfl (lv_at hl 0 rfl) ?_
  refine lv_iload_n hx hb dX0_distance_6 rfl (lv_at hl 2 rfl) ?_
  obtain ⟨q3, hq3, h⟩ := ob h
  refine vu_i hP (vu_V S hF hP (h := 1) (hlt _ (by decide)) rfl (by decide) rfl (c_X0_rowOf l P hA hn w x2 hq3) ok_X0_rowOf ml_X0_70 ⟨Nat.le_of_ble_eq_true rfl, Nat.le_of_ble_eq_true rfl⟩ rfl hl.1 rfl (Nat.le_of_ble_eq_true rfl) dX0_distance_7 ⟨Nat.le_of_ble_eq_true rfl, Nat.le_of_ble_eq_true rfl⟩) (fun H locs ho4 hP => ?_)
  refine lv_isub hx hb dX0_distance_10 ?_
  refine va_mabs hx hb (S.2.2.1.trans hl.1.symm) S.2.2.2.1 (S.2.2.2.2 _ (List.mem_cons_of_mem _ lib_X0_132.1)) (S.2.2.2.2 _ (List.mem_cons_of_mem _ lib_X0_132.2.1)) (S.2.2.2.2 _ (List.mem_cons_of_mem _ lib_X0_132.2.2.1)) (S.2.2.2.2 _ (List.mem_cons_of_mem _ lib_X0_132.2.2.2)) (by decide) (Nat.le_of_ble_eq_true rfl) (Nat.zero_le _) (Nat.zero_le _) dX0_distance_11 ?_
  refine lv_istore_n (lv' := [(3, .int (jabs (q1 - q3))), (0, .ref (P.2.1 1)), (1, .int x1), (2, .int x2)]) hx hb dX0_distance_14 rfl hl (by decide) rfl (fun ls hl => ?_)
  refine lv_aload_n hx hb dX0_distance_15 rfl (lv_at hl 1 rfl) ?_
  refine lv_iload_n hx hb dX0_distance_16 rfl (lv_at hl 2 rfl) ?_
  obtain ⟨q5, hq5, h⟩ := ob h
  refine vu_i hP (vu_V S hF hP (h := 1) (hlt _ (by decide)) rfl (by decide) rfl (c_X0_columnOf l P hA hn w x1 hq5) ok_X0_columnOf ml_X0_137 ⟨Nat.le_of_ble_eq_true rfl, Nat.le_of_ble_eq_true rfl⟩ rfl hl.1 rfl (Nat.le_of_ble_eq_true rfl) dX0_distance_17 ⟨Nat.le_of_ble_eq_true rfl, Nat.le_of_ble_eq_true rfl⟩) (fun H locs ho6 hP => ?_)
  refine lv_aload_n hx hb dX0_distance_20 rfl (lv_at hl 1 rfl) ?_
  refine lv_iload_n hx hb dX0_distance_21 rfl (lv_at hl 3 rfl) ?_
  obtain ⟨q7, hq7, h⟩ := ob h
  refine vu_i hP (vu_V S hF hP (h := 1) (hlt _ (by decide)) rfl (by decide) rfl (c_X0_columnOf l P hA hn w x2 hq7) ok_X0_columnOf ml_X0_137 ⟨Nat.le_of_ble_eq_true rfl, Nat.le_of_ble_eq_true rfl⟩ rfl hl.1 rfl (Nat.le_of_ble_eq_true rfl) dX0_distance_22 ⟨Nat.le_of_ble_eq_true rfl, Nat.le_of_ble_eq_true rfl⟩) (fun H locs ho8 hP => ?_)
  refine lv_isub hx hb dX0_distance_25 ?_
  refine va_mabs hx hb (S.2.2.1.trans hl.1.symm) S.2.2.2.1 (S.2.2.2.2 _ (List.mem_cons_of_mem _ lib_X0_132.1)) (S.2.2.2.2 _ (List.mem_cons_of_mem _ lib_X0_132.2.1)) (S.2.2.2.2 _ (List.mem_cons_of_mem _ lib_X0_132.2.2.1)) (S.2.2.2.2 _ (List.mem_cons_of_mem _ lib_X0_132.2.2.2)) (by decide) (Nat.le_of_ble_eq_true rfl) (Nat.zero_le _) (Nat.zero_le _) dX0_distance_26 ?_
  refine lv_istore (lv' := [(4, .int (jabs (q5 - q7))), (3, .int (jabs (q1 - q3))), (0, .ref (P.2.1 1)), (1, .int x1), (2, .int x2)]) hx hb dX0_distance_29 hl (by decide) rfl (fun ls hl => ?_)
  refine lv_iload_n hx hb dX0_distance_31 rfl (lv_at hl 1 rfl) ?_
  refine lv_aload_n hx hb dX0_distance_32 rfl (lv_at hl 2 rfl) ?_
  refine vt_getI S hF hP (k := 0) (ci := 0) 1 (hlt _ (by decide)) rfl (by decide) rfl (by decide) rfl (inC_X0 _) (List.mem_cons_of_mem _ fl_X0_9) dX0_distance_33 ?_
  refine lv_iload_n hx hb dX0_distance_36 rfl (lv_at hl 1 rfl) ?_
  refine lv_isub hx hb dX0_distance_37 ?_
  refine va_mmin hx hb (S.2.2.1.trans hl.1.symm) S.2.2.2.1 (S.2.2.2.2 _ (List.mem_cons_of_mem _ lib_X0_140.1)) (S.2.2.2.2 _ (List.mem_cons_of_mem _ lib_X0_140.2.1)) (S.2.2.2.2 _ (List.mem_cons_of_mem _ lib_X0_140.2.2.1)) (S.2.2.2.2 _ (List.mem_cons_of_mem _ lib_X0_140.2.2.2)) (by decide) (Nat.le_of_ble_eq_true rfl) (Nat.zero_le _) (Nat.zero_le _) dX0_distance_38 ?_
  refine lv_iload hx hb dX0_distance_41 (lv_at hl 0 rfl) ?_
  refine lv_aload_n hx hb dX0_distance_43 rfl (lv_at hl 2 rfl) ?_
  refine vt_getI S hF hP (k := 1) (ci := 0) 1 (hlt _ (by decide)) rfl (by decide) rfl (by decide) rfl (inC_X0 _) (List.mem_cons_of_mem _ fl_X0_15) dX0_distance_44 ?_
  refine lv_iload hx hb dX0_distance_47 (lv_at hl 0 rfl) ?_
  refine lv_isub hx hb dX0_distance_49 ?_
  refine va_mmin hx hb (S.2.2.1.trans hl.1.symm) S.2.2.2.1 (S.2.2.2.2 _ (List.mem_cons_of_mem _ lib_X0_140.1)) (S.2.2.2.2 _ (List.mem_cons_of_mem _ lib_X0_140.2.1)) (S.2.2.2.2 _ (List.mem_cons_of_mem _ lib_X0_140.2.2.1)) (S.2.2.2.2 _ (List.mem_cons_of_mem _ lib_X0_140.2.2.2)) (by decide) (Nat.le_of_ble_eq_true rfl) (Nat.zero_le _) (Nat.zero_le _) dX0_distance_50 ?_
  refine lv_iadd hx hb dX0_distance_53 ?_
  obtain rfl := Option.some.inj h
  exact ve_i (v := ((jmin (jabs (q1 - q3)) ((gI w 1 0) - (jabs (q1 - q3)))) + (jmin (jabs (q5 - q7)) ((gI w 1 1) - (jabs (q5 - q7)))))) S hF hP hr hk rfl dX0_distance_54
set_option maxRecDepth 100000 in
set_option maxHeartbeats 4000000 in
theorem c_X5_far (l : Launch) (P : Pl) (hA : Adr P) (hn : 26 ≤ P.2.2.2.1) (hst : l.stackTraces = false) (w : Wo) (x1 : Int32) (x2 : Int32) {r : (Nat × Wo) ⊕ (Int32 × Wo)} (h : F_X5_far w x1 x2 = some r) : CxI l P yX5_far cX5_far 3 (some .int) 7 1 [.ref (P.2.1 0), .int x1, .int x2] w r := by
  have hlt : ∀ h, h < 26 → h < P.2.2.2.1 := fun h q => Nat.lt_of_lt_of_le q hn
  refine vs_vx hA (by decide +kernel) (Nat.le_of_ble_eq_true rfl) (fun p e s m args below meth c ls S hF hP hl hr hk hxt => ?_)
  have hx := S.1
  have hb := S.2.1
  replace hl : lv_has ls 3 [(0, .ref (P.2.1 0)), (1, .int x1), (2, .int x2)] := hl
  have hB27 : ∀ (w : Wo) (x1 : Int32) (x2 : Int32) (t0 : Int32), B_X5_far_27 w x1 x2 t0 = some r → ∀ (H : Heap) (locs : List Loc) (ls : Array Slot), St P s w H locs → lv_has ls 3 [(0, .ref (P.2.1 0)), (1, .int x1), (2, .int x2)] → W p l e (rmU 7 1 (6 * 1)) s m args below meth c H locs 0 0 (XI P 1 r below args s) (F0 m 27 ls [.int t0]) := by
    intro w x1 x2 t0 h H locs ls hP hl
    unfold B_X5_far_27 at h
    obtain ⟨q2, hq2, h⟩ := ob h
    refine vu_xv hP (vu_SX S hF hP (c_X5_needIndex l P hA hn hst w t0 hq2) ok_X5_needIndex ml_X5_146 ⟨Nat.le_of_ble_eq_true rfl, Nat.le_of_ble_eq_true rfl⟩ rfl hl.1 rfl (Nat.le_of_ble_eq_true rfl) dX5_far_27 ⟨Nat.le_of_ble_eq_true rfl, Nat.le_of_ble_eq_true rfl⟩) (fun H locs u ce q9 ho hP e1 e2 e3 => ?_) (fun H locs uv3 ho hP => ?_)
    · subst ho
      obtain rfl := Option.some.inj h
      exact ve_out hF hP hk hxt e1 e2 e3 (by decide) (by decide)
    · subst ho
      rw [Sum.elim_inr] at h
      refine lv_aload_n hx hb dX5_far_30 rfl (lv_at hl 0 rfl) ?_
      refine vt_getR (r := 1) S hF hP (k := 0) (ci := 5) 0 (hlt _ (by decide)) rfl (by decide) rfl (by decide) rfl rfl (inC_X5 _) (List.mem_cons_of_mem _ fl_X5_12) dX5_far_31 ?_
      refine lv_iload_n hx hb dX5_far_34 rfl (lv_at hl 1 rfl) ?_
      refine lv_iload_n hx hb dX5_far_35 rfl (lv_at hl 2 rfl) ?_
      obtain ⟨q4, hq4, h⟩ := ob h
      refine vu_i hP (vu_V S hF hP (h := 1) (hlt _ (by decide)) rfl (by decide) rfl (c_X0_distance l P hA hn uv3 x1 x2 hq4) ok_X0_distance ml_X5_221 ⟨Nat.le_of_ble_eq_true rfl, Nat.le_of_ble_eq_true rfl⟩ rfl hl.1 rfl (Nat.le_of_ble_eq_true rfl) dX5_far_36 ⟨Nat.le_of_ble_eq_true rfl, Nat.le_of_ble_eq_true rfl⟩) (fun H locs ho5 hP => ?_)
      obtain rfl := Option.some.inj h
      exact ve_xi (v := q4) S hF hP hr hk rfl (by decide) (by decide) dX5_far_39
  have hB26 : ∀ (w : Wo) (x1 : Int32) (x2 : Int32), B_X5_far_26 w x1 x2 = some r → ∀ (H : Heap) (locs : List Loc) (ls : Array Slot), St P s w H locs → lv_has ls 3 [(0, .ref (P.2.1 0)), (1, .int x1), (2, .int x2)] → W p l e (rmU 7 1 (6 * 1)) s m args below meth c H locs 0 0 (XI P 1 r below args s) (F0 m 26 ls []) := by
    intro w x1 x2 h H locs ls hP hl
    unfold B_X5_far_26 at h
    refine lv_iconst (v := 0) hx hb dX5_far_26 (by decide) ?_
    exact hB27 _ _ _ _ h _ _ _ hP (lv_sub hl [0, 1, 2] rfl)
  unfold F_X5_far at h
  refine lv_aload_n hx hb dX5_far_0 rfl (lv_at hl 0 rfl) ?_
  refine vt_getR (r := 1) S hF hP (k := 0) (ci := 5) 0 (hlt _ (by decide)) rfl (by decide) rfl (by decide) rfl rfl (inC_X5 _) (List.mem_cons_of_mem _ fl_X5_12) dX5_far_1 ?_
  refine lv_iload_n hx hb dX5_far_4 rfl (lv_at hl 1 rfl) ?_
  refine vu_i hP (vu_V S hF hP (h := 1) (hlt _ (by decide)) rfl (by decide) rfl (c_X0_hasPlace l P hA hn w x1) ok_X0_hasPlace ml_X5_143 ⟨Nat.le_of_ble_eq_true rfl, Nat.le_of_ble_eq_true rfl⟩ rfl hl.1 rfl (Nat.le_of_ble_eq_true rfl) dX5_far_5 ⟨Nat.le_of_ble_eq_true rfl, Nat.le_of_ble_eq_true rfl⟩) (fun H locs ho1 hP => ?_)
  refine lv_if_eq (tgt := 26) hx hb dX5_far_8 (by decide) (fun c7 => ?_) (fun c7 => ?_)
  · rw [if_pos c7] at h
    exact hB26 _ _ _ h _ _ _ hP (lv_sub hl [0, 1, 2] rfl)
  · rw [if_neg c7] at h
    refine lv_aload_n hx hb dX5_far_11 rfl (lv_at hl 0 rfl) ?_
    refine vt_getR (r := 1) S hF hP (k := 0) (ci := 5) 0 (hlt _ (by decide)) rfl (by decide) rfl (by decide) rfl rfl (inC_X5 _) (List.mem_cons_of_mem _ fl_X5_12) dX5_far_12 ?_
    refine lv_iload_n hx hb dX5_far_15 rfl (lv_at hl 2 rfl) ?_
    refine vu_i hP (vu_V S hF hP (h := 1) (hlt _ (by decide)) rfl (by decide) rfl (c_X0_hasPlace l P hA hn w x2) ok_X0_hasPlace ml_X5_143 ⟨Nat.le_of_ble_eq_true rfl, Nat.le_of_ble_eq_true rfl⟩ rfl hl.1 rfl (Nat.le_of_ble_eq_true rfl) dX5_far_16 ⟨Nat.le_of_ble_eq_true rfl, Nat.le_of_ble_eq_true rfl⟩) (fun H locs ho6 hP => ?_)
    refine lv_if_eq (tgt := 26) hx hb dX5_far_19 (by decide) (fun c8 => ?_) (fun c8 => ?_)
    · rw [if_pos c8] at h
      exact hB26 _ _ _ h _ _ _ hP (lv_sub hl [0, 1, 2] rfl)
    · rw [if_neg c8] at h
      refine lv_iconst (v := 1) hx hb dX5_far_22 (by decide) ?_
      refine lv_goto (tgt := 27) hx hb dX5_far_23 (by decide) ?_
      exact hB27 _ _ _ _ h _ _ _ hP (lv_sub hl [0, 1, 2] rfl)
set_option maxRecDepth 100000 in
set_option maxHeartbeats 4000000 in
theorem c_X0_hasSong (l : Launch) (P : Pl) (hA : Adr P) (hn : 26 ≤ P.2.2.2.1) (w : Wo) (x1 : Int32) {r : Int32} (h : F_X0_hasSong w x1 = some r) : CtI l P yX0_hasSong cX0_hasSong 4 (some .boolean) 4 [.ref (P.2.1 1), .int x1] w r w := by
  have hlt : ∀ h, h < 26 → h < P.2.2.2.1 := fun h q => Nat.lt_of_lt_of_le q hn
  refine vs_met hA (by decide +kernel) (Nat.le_of_ble_eq_true rfl) (fun p e s m args below meth c ls S hF hP hl hr hk => ?_)
  have hx := S.1
  have hb := S.2.1
  replace hl : lv_has ls 4 [(0, .ref (P.2.1 1)), (1, .int x1)] := hl
  have hB52 : ∀ (x1 : Int32), B_X0_hasSong_52 w x1 = some r → ∀ (H : Heap) (locs : List Loc) (ls : Array Slot), St P s w H locs → lv_has ls 4 [(0, .ref (P.2.1 1)), (1, .int x1)] → W p l e (rmU 4 0 0) s m args below meth c H locs 0 0 (QI P (some .boolean) r w below args s) (F0 m 52 ls []) := by
    intro x1 h H locs ls hP hl
    unfold B_X0_hasSong_52 at h
    refine lv_aload_n hx hb dX0_hasSong_52 rfl (lv_at hl 0 rfl) ?_
    refine lv_iload_n hx hb dX0_hasSong_53 rfl (lv_at hl 1 rfl) ?_
    obtain ⟨q2, hq2, h⟩ := ob h
    refine vu_i hP (vu_V S hF hP (h := 1) (hlt _ (by decide)) rfl (by decide) rfl (c_X0_vowelsOn l P hA hn w x1 hq2) ok_X0_vowelsOn ml_X0_159 ⟨Nat.le_of_ble_eq_true rfl, Nat.le_of_ble_eq_true rfl⟩ rfl hl.1 rfl (Nat.le_of_ble_eq_true rfl) dX0_hasSong_54 ⟨Nat.le_of_ble_eq_true rfl, Nat.le_of_ble_eq_true rfl⟩) (fun H locs ho3 hP => ?_)
    refine lv_if_le (tgt := 64) hx hb dX0_hasSong_57 (by decide) (fun c6 => ?_) (fun c6 => ?_)
    · rw [if_pos c6] at h
      refine lv_iconst (v := 0) hx hb dX0_hasSong_64 (by decide) ?_
      obtain rfl := Option.some.inj h
      exact ve_i (v := 0) S hF hP hr hk rfl dX0_hasSong_65
    · rw [if_neg c6] at h
      refine lv_iconst (v := 1) hx hb dX0_hasSong_60 (by decide) ?_
      refine lv_goto (tgt := 65) hx hb dX0_hasSong_61 (by decide) ?_
      obtain rfl := Option.some.inj h
      exact ve_i (v := 1) S hF hP hr hk rfl dX0_hasSong_65
  have hL10 : ∀ (x1 : Int32) (x2 : Int32) (n : Nat) (x3 : Int32), jl1 (B_X0_hasSong_10 w x1 x2) n x3 = some r → ∀ (H : Heap) (locs : List Loc) (ls : Array Slot), St P s w H locs → lv_has ls 4 [(0, .ref (P.2.1 1)), (1, .int x1), (2, .int x2), (3, .int x3)] → W p l e (rmU 4 0 0) s m args below meth c H locs 0 0 (QI P (some .boolean) r w below args s) (F0 m 10 ls []) := by
    intro x1 x2
    intro n
    induction n with
    | zero =>
      intro x3 h
      cases h
    | succ n ih10 =>
      intro x3 h H locs ls hP hl
      replace h : B_X0_hasSong_10 w x1 x2 (jl1 (B_X0_hasSong_10 w x1 x2) n) x3 = some r := h
      revert h ih10
      generalize jl1 (B_X0_hasSong_10 w x1 x2) n = k10
      intro ih10 h
      have hB46 : ∀ (x3 : Int32), B_X0_hasSong_46 k10 w x1 x2 x3 = some r → ∀ (H : Heap) (locs : List Loc) (ls : Array Slot), St P s w H locs → lv_has ls 4 [(0, .ref (P.2.1 1)), (1, .int x1), (2, .int x2), (3, .int x3)] → W p l e (rmU 4 0 0) s m args below meth c H locs 0 0 (QI P (some .boolean) r w below args s) (F0 m 46 ls []) := by
        intro x3 h H locs ls hP hl
        unfold B_X0_hasSong_46 at h
        refine lv_iinc (v := (x3 + 1)) (lv' := [(3, .int (x3 + 1)), (0, .ref (P.2.1 1)), (1, .int x1), (2, .int x2)]) hx hb dX0_hasSong_46 hl (k := 3) rfl rfl (by decide) rfl (fun ls hl => ?_)
        refine lv_goto (tgt := 10) hx hb dX0_hasSong_49 (by decide) ?_
        exact ih10 _ h _ _ _ hP (lv_sub hl [1, 2, 3, 0] rfl)
      have hB38 : ∀ (x3 : Int32) (t0 : Int32) (t1 : Int32), B_X0_hasSong_38 k10 w x1 x2 x3 t0 t1 = some r → ∀ (H : Heap) (locs : List Loc) (ls : Array Slot), St P s w H locs → lv_has ls 4 [(0, .ref (P.2.1 1)), (1, .int x1), (2, .int x2), (3, .int x3)] → W p l e (rmU 4 0 0) s m args below meth c H locs 0 0 (QI P (some .boolean) r w below args s) (F0 m 38 ls [.int t0, .int t1, .ref (P.2.1 1)]) := by
        intro x3 t0 t1 h H locs ls hP hl
        unfold B_X0_hasSong_38 at h
        refine vu_i hP (vu_V S hF hP (h := 1) (hlt _ (by decide)) rfl (by decide) rfl (c_X0_isVowelOn l P hA hn w t1 t0) ok_X0_isVowelOn ml_X0_155 ⟨Nat.le_of_ble_eq_true rfl, Nat.le_of_ble_eq_true rfl⟩ rfl hl.1 rfl (Nat.le_of_ble_eq_true rfl) dX0_hasSong_38 ⟨Nat.le_of_ble_eq_true rfl, Nat.le_of_ble_eq_true rfl⟩) (fun H locs ho5 hP => ?_)
        refine lv_if_eq (tgt := 46) hx hb dX0_hasSong_41 (by decide) (fun c7 => ?_) (fun c7 => ?_)
        · rw [if_pos c7] at h
          exact hB46 _ h _ _ _ hP (lv_sub hl [0, 1, 2, 3] rfl)
        · rw [if_neg c7] at h
          refine lv_iconst (v := 0) hx hb dX0_hasSong_44 (by decide) ?_
          obtain rfl := Option.some.inj h
          exact ve_i (v := 0) S hF hP hr hk rfl dX0_hasSong_45
      unfold B_X0_hasSong_10 at h
      refine lv_iload_n hx hb dX0_hasSong_10 rfl (lv_at hl 3 rfl) ?_
      refine lv_iload_n hx hb dX0_hasSong_11 rfl (lv_at hl 2 rfl) ?_
      refine lv_icmp_gt (tgt := 52) hx hb dX0_hasSong_12 (by decide) (fun c8 => ?_) (fun c8 => ?_)
      · rw [if_pos c8] at h
        exact hB52 _ h _ _ _ hP (lv_sub hl [0, 1] rfl)
      · rw [if_neg c8] at h
        refine lv_aload_n hx hb dX0_hasSong_15 rfl (lv_at hl 0 rfl) ?_
        refine lv_iload_n hx hb dX0_hasSong_16 rfl (lv_at hl 1 rfl) ?_
        refine lv_iload_n hx hb dX0_hasSong_17 rfl (lv_at hl 3 rfl) ?_
        refine vu_i hP (vu_V S hF hP (h := 1) (hlt _ (by decide)) rfl (by decide) rfl (c_X0_isVowelOn l P hA hn w x1 x3) ok_X0_isVowelOn ml_X0_155 ⟨Nat.le_of_ble_eq_true rfl, Nat.le_of_ble_eq_true rfl⟩ rfl hl.1 rfl (Nat.le_of_ble_eq_true rfl) dX0_hasSong_18 ⟨Nat.le_of_ble_eq_true rfl, Nat.le_of_ble_eq_true rfl⟩) (fun H locs ho4 hP => ?_)
        refine lv_if_eq (tgt := 46) hx hb dX0_hasSong_21 (by decide) (fun c9 => ?_) (fun c9 => ?_)
        · rw [if_pos c9] at h
          exact hB46 _ h _ _ _ hP (lv_sub hl [0, 1, 2, 3] rfl)
        · rw [if_neg c9] at h
          refine lv_aload_n hx hb dX0_hasSong_24 rfl (lv_at hl 0 rfl) ?_
          refine lv_iload_n hx hb dX0_hasSong_25 rfl (lv_at hl 1 rfl) ?_
          refine lv_iload_n hx hb dX0_hasSong_26 rfl (lv_at hl 3 rfl) ?_
          refine lv_iload_n hx hb dX0_hasSong_27 rfl (lv_at hl 2 rfl) ?_
          refine lv_icmp_ne (tgt := 35) hx hb dX0_hasSong_28 (by decide) (fun c10 => ?_) (fun c10 => ?_)
          · rw [if_neg c10] at h
            refine lv_iload_n hx hb dX0_hasSong_35 rfl (lv_at hl 3 rfl) ?_
            refine lv_iconst (v := 1) hx hb dX0_hasSong_36 (by decide) ?_
            refine lv_iadd hx hb dX0_hasSong_37 ?_
            exact hB38 _ _ _ h _ _ _ hP (lv_sub hl [0, 1, 2, 3] rfl)
          · rw [if_pos c10] at h
            refine lv_iconst (v := 0) hx hb dX0_hasSong_31 (by decide) ?_
            refine lv_goto (tgt := 38) hx hb dX0_hasSong_32 (by decide) ?_
            exact hB38 _ _ _ h _ _ _ hP (lv_sub hl [0, 1, 2, 3] rfl)
  have hB8 : ∀ (x1 : Int32) (x2 : Int32), B_X0_hasSong_8 w x1 x2 = some r → ∀ (H : Heap) (locs : List Loc) (ls : Array Slot), St P s w H locs → lv_has ls 4 [(0, .ref (P.2.1 1)), (1, .int x1), (2, .int x2)] → W p l e (rmU 4 0 0) s m args below meth c H locs 0 0 (QI P (some .boolean) r w below args s) (F0 m 8 ls []) := by
    intro x1 x2 h H locs ls hP hl
    unfold B_X0_hasSong_8 at h
    refine lv_iconst (v := 0) hx hb dX0_hasSong_8 (by decide) ?_
    refine lv_istore_n (lv' := [(3, .int 0), (0, .ref (P.2.1 1)), (1, .int x1), (2, .int x2)]) hx hb dX0_hasSong_9 rfl hl (by decide) rfl (fun ls hl => ?_)
    exact hL10 _ _ fu _ h _ _ _ hP (lv_sub hl [1, 2, 3, 0] rfl)
  unfold F_X0_hasSong at h
  refine lv_aload_n hx hb dX0_hasSong_0 rfl (lv_at hl 0 rfl) ?_
  refine lv_iload_n hx hb dX0_hasSong_1 rfl (lv_at hl 1 rfl) ?_
  refine vu_i hP (vu_V S hF hP (h := 1) (hlt _ (by decide)) rfl (by decide) rfl (c_X0_lineLength l P hA hn w x1) ok_X0_lineLength ml_X0_79 ⟨Nat.le_of_ble_eq_true rfl, Nat.le_of_ble_eq_true rfl⟩ rfl hl.1 rfl (Nat.le_of_ble_eq_true rfl) dX0_hasSong_2 ⟨Nat.le_of_ble_eq_true rfl, Nat.le_of_ble_eq_true rfl⟩) (fun H locs ho1 hP => ?_)
  refine lv_iconst (v := 1) hx hb dX0_hasSong_5 (by decide) ?_
  refine lv_isub hx hb dX0_hasSong_6 ?_
  refine lv_istore_n (lv' := [(2, .int ((F_X0_lineLength w x1) - (1 : Int32))), (0, .ref (P.2.1 1)), (1, .int x1)]) hx hb dX0_hasSong_7 rfl hl (by decide) rfl (fun ls hl => ?_)
  exact hB8 _ _ h _ _ _ hP (lv_sub hl [1, 2, 0] rfl)
