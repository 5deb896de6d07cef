set_option maxRecDepth 100000 in
set_option maxHeartbeats 4000000 in
theorem c_X6_isOut (l : Launch) (P : Pl) (hA : Adr P) (hn : 36 ≤ P.2.2.2.1) (w : Wo) {r : Int32 × Wo} (h : F_X6_isOut w = some r) : CtI l P yX6_isOut cX6_isOut 1 (some .boolean) 4 [.ref (P.2.1 26)] w r.1 r.2 := by
  have hlt : ∀ h, h < 36 → h < P.2.2.2.1 := fun h q => Nat.lt_of_lt_of_le q hn
  refine vs_met hA (by decide +kernel) (Nat.le_of_ble_eq_true rfl) (fun p e s m args below meth c ls S hF hP hl hr hk => ?_)
  have hx := S.1
  have hb := S.2.1
  replace hl : lv_has ls 1 [(0, .ref (P.2.1 26))] := hl
  have hB5 : ∀ (w : Wo), B_X6_isOut_5 w = some r → ∀ (H : Heap) (locs : List Loc) (ls : Array Slot), St P s w H locs → lv_has ls 1 [(0, .ref (P.2.1 26))] → W p l e (rmU 4 0 0) s m args below meth c H locs 0 0 (QI P (some .boolean) r.1 r.2 below args s) (F0 m 5 ls []) := by
    intro w h H locs ls hP hl
    unfold B_X6_isOut_5 at h
    refine lv_aload_n hx hb dX6_isOut_5 rfl (lv_at hl 0 rfl) ?_
    obtain ⟨q1, hq1, h⟩ := ob h
    refine vu_i hP (vu_V S hF hP (h := 26) (hlt _ (by decide)) rfl (by decide) rfl (c_X6_isOutOfReach l P hA hn w hq1) ok_X6_isOutOfReach ml_X6_187 ⟨Nat.le_of_ble_eq_true rfl, Nat.le_of_ble_eq_true rfl⟩ rfl hl.1 rfl (Nat.le_of_ble_eq_true rfl) dX6_isOut_6 ⟨Nat.le_of_ble_eq_true rfl, Nat.le_of_ble_eq_true rfl⟩) (fun H locs ho2 hP => ?_)
    obtain rfl := Option.some.inj h
    exact ve_i (v := q1.1) S hF hP hr hk ho2 dX6_isOut_9
  unfold F_X6_isOut at h
  refine lv_aload_n hx hb dX6_isOut_0 rfl (lv_at hl 0 rfl) ?_
  refine lv_iconst (v := 0) hx hb dX6_isOut_1 (by decide) ?_
  refine vt_putI S hF hP (k := 14) (ci := 6) 26 (hlt _ (by decide)) rfl (by decide) rfl (by decide) rfl tyX6 tyX6_ok nmX6 rfl rfl rfl rfl (by decide) (inC_X6 _) (List.mem_cons_of_mem _ fl_X6_46) dX6_isOut_2 (fun H locs hP => ?_)
  exact hB5 _ h _ _ _ hP (lv_sub hl [0] rfl)
set_option maxRecDepth 100000 in
set_option maxHeartbeats 4000000 in
theorem c_X6_isOdd (l : Launch) (P : Pl) (hA : Adr P) (hn : 36 ≤ P.2.2.2.1) (w : Wo) (x1 : Int32) {r : Int32 × Wo} (h : F_X6_isOdd w x1 = some r) : CtI l P yX6_isOdd cX6_isOdd 3 (some .boolean) 3 [.ref (P.2.1 26), .int x1] w r.1 r.2 := by
  have hlt : ∀ h, h < 36 → h < P.2.2.2.1 := fun h q => Nat.lt_of_lt_of_le q hn
  refine vs_met hA (by decide +kernel) (Nat.le_of_ble_eq_true rfl) (fun p e s m args below meth c ls S hF hP hl hr hk => ?_)
  have hx := S.1
  have hb := S.2.1
  replace hl : lv_has ls 3 [(0, .ref (P.2.1 26)), (1, .int x1)] := hl
  have hB47 : ∀ (w : Wo) (x2 : Int32), B_X6_isOdd_47 w x2 = some r → ∀ (H : Heap) (locs : List Loc) (ls : Array Slot), St P s w H locs → lv_has ls 3 [(0, .ref (P.2.1 26)), (2, .int x2)] → W p l e (rmU 3 0 0) s m args below meth c H locs 0 0 (QI P (some .boolean) r.1 r.2 below args s) (F0 m 47 ls []) := by
    intro w x2 h H locs ls hP hl
    unfold B_X6_isOdd_47 at h
    refine lv_iload_n hx hb dX6_isOdd_47 rfl (lv_at hl 1 rfl) ?_
    refine lv_if_eq (tgt := 62) hx hb dX6_isOdd_48 (by decide) (fun c11 => ?_) (fun c11 => ?_)
    · rw [if_pos c11] at h
      refine lv_iconst (v := 0) hx hb dX6_isOdd_62 (by decide) ?_
      obtain rfl := Option.some.inj h
      exact ve_i (v := 0) S hF hP hr hk rfl dX6_isOdd_63
    · rw [if_neg c11] at h
      refine lv_aload_n hx hb dX6_isOdd_51 rfl (lv_at hl 0 rfl) ?_
      obtain ⟨q5, hq5, h⟩ := ob h
      refine vu_i hP (vu_V S hF hP (h := 26) (hlt _ (by decide)) rfl (by decide) rfl (c_X6_swapsAreOdd l P hA hn w hq5) ok_X6_swapsAreOdd ml_X6_184 ⟨Nat.le_of_ble_eq_true rfl, Nat.le_of_ble_eq_true rfl⟩ rfl hl.1 rfl (Nat.le_of_ble_eq_true rfl) dX6_isOdd_52 ⟨Nat.le_of_ble_eq_true rfl, Nat.le_of_ble_eq_true rfl⟩) (fun H locs ho6 hP => ?_)
      refine lv_if_eq (tgt := 62) hx hb dX6_isOdd_55 (by decide) (fun c12 => ?_) (fun c12 => ?_)
      · rw [if_pos c12] at h
        refine lv_iconst (v := 0) hx hb dX6_isOdd_62 (by decide) ?_
        obtain rfl := Option.some.inj h
        exact ve_i (v := 0) S hF hP hr hk rfl dX6_isOdd_63
      · rw [if_neg c12] at h
        refine lv_iconst (v := 1) hx hb dX6_isOdd_58 (by decide) ?_
        refine lv_goto (tgt := 63) hx hb dX6_isOdd_59 (by decide) ?_
        obtain rfl := Option.some.inj h
        exact ve_i (v := 1) S hF hP hr hk rfl dX6_isOdd_63
  have hB44 : ∀ (w : Wo) (x2 : Int32) (t0 : Int32), B_X6_isOdd_44 w x2 t0 = some r → ∀ (H : Heap) (locs : List Loc) (ls : Array Slot), St P s w H locs → lv_has ls 3 [(0, .ref (P.2.1 26)), (2, .int x2)] → W p l e (rmU 3 0 0) s m args below meth c H locs 0 0 (QI P (some .boolean) r.1 r.2 below args s) (F0 m 44 ls [.int t0, .ref (P.2.1 26)]) := by
    intro w x2 t0 h H locs ls hP hl
    unfold B_X6_isOdd_44 at h
    refine vt_putI S hF hP (k := 14) (ci := 6) 26 (hlt _ (by decide)) rfl (by decide) rfl (by decide) rfl tyX6 tyX6_ok nmX6 rfl rfl rfl rfl (by decide) (inC_X6 _) (List.mem_cons_of_mem _ fl_X6_46) dX6_isOdd_44 (fun H locs hP => ?_)
    exact hB47 _ _ h _ _ _ hP (lv_sub hl [0, 1] rfl)
  have hB33 : ∀ (w : Wo) (t0 : Int32), B_X6_isOdd_33 w t0 = some r → ∀ (H : Heap) (locs : List Loc) (ls : Array Slot), St P s w H locs → lv_has ls 3 [(0, .ref (P.2.1 26))] → W p l e (rmU 3 0 0) s m args below meth c H locs 0 0 (QI P (some .boolean) r.1 r.2 below args s) (F0 m 33 ls [.int t0]) := by
    intro w t0 h H locs ls hP hl
    unfold B_X6_isOdd_33 at h
    refine lv_istore_n (lv' := [(2, .int t0), (0, .ref (P.2.1 26))]) hx hb dX6_isOdd_33 rfl hl (by decide) rfl (fun ls hl => ?_)
    refine lv_aload_n hx hb dX6_isOdd_34 rfl (lv_at hl 1 rfl) ?_
    refine lv_iload_n hx hb dX6_isOdd_35 rfl (lv_at hl 0 rfl) ?_
    refine lv_if_eq (tgt := 43) hx hb dX6_isOdd_36 (by decide) (fun c13 => ?_) (fun c13 => ?_)
    · rw [if_pos c13] at h
      refine lv_iconst (v := 1) hx hb dX6_isOdd_43 (by decide) ?_
      exact hB44 _ _ _ h _ _ _ hP (lv_sub hl [1, 0] rfl)
    · rw [if_neg c13] at h
      refine lv_iconst (v := 0) hx hb dX6_isOdd_39 (by decide) ?_
      refine lv_goto (tgt := 44) hx hb dX6_isOdd_40 (by decide) ?_
      exact hB44 _ _ _ h _ _ _ hP (lv_sub hl [1, 0] rfl)
  have hB32 : ∀ (w : Wo), B_X6_isOdd_32 w = some r → ∀ (H : Heap) (locs : List Loc) (ls : Array Slot), St P s w H locs → lv_has ls 3 [(0, .ref (P.2.1 26))] → W p l e (rmU 3 0 0) s m args below meth c H locs 0 0 (QI P (some .boolean) r.1 r.2 below args s) (F0 m 32 ls []) := by
    intro w h H locs ls hP hl
    unfold B_X6_isOdd_32 at h
    refine lv_iconst (v := 0) hx hb dX6_isOdd_32 (by decide) ?_
    exact hB33 _ _ h _ _ _ hP (lv_sub hl [0] rfl)
  unfold F_X6_isOdd at h
  refine lv_aload_n hx hb dX6_isOdd_0 rfl (lv_at hl 0 rfl) ?_
  obtain ⟨q1, hq1, h⟩ := ob h
  refine vu_i hP (vu_V S hF hP (h := 26) (hlt _ (by decide)) rfl (by decide) rfl (c_X6_unlike l P hA hn w hq1) ok_X6_unlike ml_X6_181 ⟨Nat.le_of_ble_eq_true rfl, Nat.le_of_ble_eq_true rfl⟩ rfl hl.1 rfl (Nat.le_of_ble_eq_true rfl) dX6_isOdd_1 ⟨Nat.le_of_ble_eq_true rfl, Nat.le_of_ble_eq_true rfl⟩) (fun H locs ho2 hP => ?_)
  refine lv_aload_n hx hb dX6_isOdd_4 rfl (lv_at hl 0 rfl) ?_
  obtain ⟨q3, hq3, h⟩ := ob h
  refine vu_i hP (vu_V S hF hP (h := 26) (hlt _ (by decide)) rfl (by decide) rfl (c_X6_places l P hA hn w hq3) ok_X6_places ml_X6_66 ⟨Nat.le_of_ble_eq_true rfl, Nat.le_of_ble_eq_true rfl⟩ rfl hl.1 rfl (Nat.le_of_ble_eq_true rfl) dX6_isOdd_5 ⟨Nat.le_of_ble_eq_true rfl, Nat.le_of_ble_eq_true rfl⟩) (fun H locs ho4 hP => ?_)
  refine lv_icmp_ne (tgt := 32) hx hb dX6_isOdd_8 (by decide) (fun c14 => ?_) (fun c14 => ?_)
  · rw [if_neg c14] at h
    exact hB32 _ h _ _ _ hP (lv_sub hl [0] rfl)
  · rw [if_pos c14] at h
    refine lv_aload_n hx hb dX6_isOdd_11 rfl (lv_at hl 0 rfl) ?_
    obtain ⟨q7, hq7, h⟩ := ob h
    refine vu_i hP (vu_V S hF hP (h := 26) (hlt _ (by decide)) rfl (by decide) rfl (c_X6_lacksLetters l P hA hn w hq7) ok_X6_lacksLetters ml_X6_177 ⟨Nat.le_of_ble_eq_true rfl, Nat.le_of_ble_eq_true rfl⟩ rfl hl.1 rfl (Nat.le_of_ble_eq_true rfl) dX6_isOdd_12 ⟨Nat.le_of_ble_eq_true rfl, Nat.le_of_ble_eq_true rfl⟩) (fun H locs ho8 hP => ?_)
    refine lv_if_ne (tgt := 32) hx hb dX6_isOdd_15 (by decide) (fun c15 => ?_) (fun c15 => ?_)
    · rw [if_neg c15] at h
      exact hB32 _ h _ _ _ hP (lv_sub hl [0] rfl)
    · rw [if_pos c15] at h
      refine lv_aload_n hx hb dX6_isOdd_18 rfl (lv_at hl 0 rfl) ?_
      refine lv_bipush (v := 23) hx hb dX6_isOdd_19 (by decide) ?_
      refine lv_iconst (v := (-1)) hx hb dX6_isOdd_21 (by decide) ?_
      obtain ⟨q9, hq9, h⟩ := ob h
      refine vu_i hP (vu_V S hF hP (h := 26) (hlt _ (by decide)) rfl (by decide) rfl (c_X6_timesOf l P hA hn w 23 (-1) hq9) ok_X6_timesOf ml_X6_174 ⟨Nat.le_of_ble_eq_true rfl, Nat.le_of_ble_eq_true rfl⟩ rfl hl.1 rfl (Nat.le_of_ble_eq_true rfl) dX6_isOdd_22 ⟨Nat.le_of_ble_eq_true rfl, Nat.le_of_ble_eq_true rfl⟩) (fun H locs ho10 hP => ?_)
      refine lv_if_ne (tgt := 32) hx hb dX6_isOdd_25 (by decide) (fun c16 => ?_) (fun c16 => ?_)
      · rw [if_neg c16] at h
        exact hB32 _ h _ _ _ hP (lv_sub hl [0] rfl)
      · rw [if_pos c16] at h
        refine lv_iconst (v := 1) hx hb dX6_isOdd_28 (by decide) ?_
        refine lv_goto (tgt := 33) hx hb dX6_isOdd_29 (by decide) ?_
        exact hB33 _ _ h _ _ _ hP (lv_sub hl [0] rfl)
set_option maxRecDepth 100000 in
set_option maxHeartbeats 4000000 in
theorem c_X6_steps (l : Launch) (P : Pl) (hA : Adr P) (hn : 36 ≤ P.2.2.2.1) (w : Wo) {r : Int32 × Wo} (h : F_X6_steps w = some r) : CtI l P yX6_steps cX6_steps 3 (some .int) 4 [.ref (P.2.1 26)] w r.1 r.2 := by
  have hlt : ∀ h, h < 36 → h < P.2.2.2.1 := fun h q => Nat.lt_of_lt_of_le q hn
  refine vs_met hA (by decide +kernel) (Nat.le_of_ble_eq_true rfl) (fun p e s m args below meth c ls S hF hP hl hr hk => ?_)
  have hx := S.1
  have hb := S.2.1
  replace hl : lv_has ls 3 [(0, .ref (P.2.1 26))] := hl
  have hB79 : ∀ (w : Wo) (x2 : Int32), B_X6_steps_79 w x2 = some r → ∀ (H : Heap) (locs : List Loc) (ls : Array Slot), St P s w H locs → lv_has ls 3 [(0, .ref (P.2.1 26)), (2, .int x2)] → W p l e (rmU 4 0 0) s m args below meth c H locs 0 0 (QI P (some .int) r.1 r.2 below args s) (F0 m 79 ls []) := by
    intro w x2 h H locs ls hP hl
    unfold B_X6_steps_79 at h
    refine lv_aload_n hx hb dX6_steps_79 rfl (lv_at hl 0 rfl) ?_
    refine lv_iload_n hx hb dX6_steps_80 rfl (lv_at hl 1 rfl) ?_
    obtain ⟨q11, hq11, h⟩ := ob h
    refine vu_i hP (vu_V S hF hP (h := 26) (hlt _ (by decide)) rfl (by decide) rfl (c_X6_done l P hA hn w x2 hq11) ok_X6_done ml_X6_81 ⟨Nat.le_of_ble_eq_true rfl, Nat.le_of_ble_eq_true rfl⟩ rfl hl.1 rfl (Nat.le_of_ble_eq_true rfl) dX6_steps_81 ⟨Nat.le_of_ble_eq_true rfl, Nat.le_of_ble_eq_true rfl⟩) (fun H locs ho12 hP => ?_)
    obtain rfl := Option.some.inj h
    exact ve_i (v := q11.1) S hF hP hr hk rfl dX6_steps_84
  unfold F_X6_steps at h
  refine lv_aload_n hx hb dX6_steps_0 rfl (lv_at hl 0 rfl) ?_
  obtain ⟨q1, hq1, h⟩ := ob h
  refine vu_i hP (vu_V S hF hP (h := 26) (hlt _ (by decide)) rfl (by decide) rfl (c_X6_homes l P hA hn w hq1) ok_X6_homes ml_X6_134 ⟨Nat.le_of_ble_eq_true rfl, Nat.le_of_ble_eq_true rfl⟩ rfl hl.1 rfl (Nat.le_of_ble_eq_true rfl) dX6_steps_1 ⟨Nat.le_of_ble_eq_true rfl, Nat.le_of_ble_eq_true rfl⟩) (fun H locs ho2 hP => ?_)
  refine lv_istore_n (lv' := [(1, .int q1.1), (0, .ref (P.2.1 26))]) hx hb dX6_steps_4 rfl hl (by decide) rfl (fun ls hl => ?_)
  refine lv_iload_n hx hb dX6_steps_5 rfl (lv_at hl 0 rfl) ?_
  refine lv_aload_n hx hb dX6_steps_6 rfl (lv_at hl 1 rfl) ?_
  obtain ⟨q3, hq3, h⟩ := ob h
  refine vu_i hP (vu_V S hF hP (h := 26) (hlt _ (by decide)) rfl (by decide) rfl (c_X6_places l P hA hn q1.2 hq3) ok_X6_places ml_X6_66 ⟨Nat.le_of_ble_eq_true rfl, Nat.le_of_ble_eq_true rfl⟩ rfl hl.1 rfl (Nat.le_of_ble_eq_true rfl) dX6_steps_7 ⟨Nat.le_of_ble_eq_true rfl, Nat.le_of_ble_eq_true rfl⟩) (fun H locs ho4 hP => ?_)
  refine lv_icmp_ne (tgt := 24) hx hb dX6_steps_10 (by decide) (fun c23 => ?_) (fun c23 => ?_)
  · rw [if_neg c23] at h
    refine lv_aload_n hx hb dX6_steps_24 rfl (lv_at hl 1 rfl) ?_
    obtain ⟨q5, hq5, h⟩ := ob h
    refine vu_i hP (vu_V S hF hP (h := 26) (hlt _ (by decide)) rfl (by decide) rfl (c_X6_isOutOfReach l P hA hn q1.2 hq5) ok_X6_isOutOfReach ml_X6_187 ⟨Nat.le_of_ble_eq_true rfl, Nat.le_of_ble_eq_true rfl⟩ rfl hl.1 rfl (Nat.le_of_ble_eq_true rfl) dX6_steps_25 ⟨Nat.le_of_ble_eq_true rfl, Nat.le_of_ble_eq_true rfl⟩) (fun H locs ho6 hP => ?_)
    refine lv_if_eq (tgt := 44) hx hb dX6_steps_28 (by decide) (fun c24 => ?_) (fun c24 => ?_)
    · rw [if_pos c24] at h
      refine lv_aload_n hx hb dX6_steps_44 rfl (lv_at hl 1 rfl) ?_
      obtain ⟨q7, hq7, h⟩ := ob h
      refine vu_i hP (vu_V S hF hP (h := 26) (hlt _ (by decide)) rfl (by decide) rfl (c_X6_shortest l P hA hn q5.2 hq7) ok_X6_shortest ml_X6_171 ⟨Nat.le_of_ble_eq_true rfl, Nat.le_of_ble_eq_true rfl⟩ rfl hl.1 rfl (Nat.le_of_ble_eq_true rfl) dX6_steps_45 ⟨Nat.le_of_ble_eq_true rfl, Nat.le_of_ble_eq_true rfl⟩) (fun H locs ho8 hP => ?_)
      refine lv_iconst (v := (-1)) hx hb dX6_steps_48 (by decide) ?_
      refine lv_icmp_ne (tgt := 58) hx hb dX6_steps_49 (by decide) (fun c25 => ?_) (fun c25 => ?_)
      · rw [if_neg c25] at h
        refine lv_aload_n hx hb dX6_steps_58 rfl (lv_at hl 1 rfl) ?_
        refine vt_getI S hF hP (k := 17) (ci := 6) 26 (hlt _ (by decide)) rfl (by decide) rfl (by decide) rfl (inC_X6 _) (List.mem_cons_of_mem _ fl_X6_164) dX6_steps_59 ?_
        refine lv_istore_n (lv' := [(2, .int (gI q7.2 26 17)), (1, .int q1.1), (0, .ref (P.2.1 26))]) hx hb dX6_steps_62 rfl hl (by decide) rfl (fun ls hl => ?_)
        refine lv_aload_n hx hb dX6_steps_63 rfl (lv_at hl 2 rfl) ?_
        refine lv_iload_n hx hb dX6_steps_64 rfl (lv_at hl 0 rfl) ?_
        obtain ⟨q9, hq9, h⟩ := ob h
        refine vu_i hP (vu_V S hF hP (h := 26) (hlt _ (by decide)) rfl (by decide) rfl (c_X6_makesByHand l P hA hn q7.2 (gI q7.2 26 17) hq9) ok_X6_makesByHand ml_X6_146 ⟨Nat.le_of_ble_eq_true rfl, Nat.le_of_ble_eq_true rfl⟩ rfl hl.1 rfl (Nat.le_of_ble_eq_true rfl) dX6_steps_65 ⟨Nat.le_of_ble_eq_true rfl, Nat.le_of_ble_eq_true rfl⟩) (fun H locs ho10 hP => ?_)
        refine lv_istore_n (lv' := [(1, .int q9.1), (2, .int (gI q7.2 26 17)), (0, .ref (P.2.1 26))]) hx hb dX6_steps_68 rfl hl (by decide) rfl (fun ls hl => ?_)
        refine lv_aload_n hx hb dX6_steps_69 rfl (lv_at hl 2 rfl) ?_
        refine vt_getR (r := 27) S hF hP (k := 0) (ci := 6) 26 (hlt _ (by decide)) rfl (by decide) rfl (by decide) rfl rfl (inC_X6 _) (List.mem_cons_of_mem _ fl_X6_7) dX6_steps_70 ?_
        refine lv_iconst (v := 5) hx hb dX6_steps_73 (by decide) ?_
        refine lv_dup2_11 hx hb dX6_steps_74 rfl rfl ?_
        refine vt_ialdK 5 (by decide) S hF hP (hlt _ (by decide)) rfl (by decide) dX6_steps_75 ?_
        refine lv_iconst (v := 1) hx hb dX6_steps_76 (by decide) ?_
        refine lv_iadd hx hb dX6_steps_77 ?_
        refine vt_iastK 5 (by decide) S hF hP (hlt _ (by decide)) rfl (by decide) dX6_steps_78 (fun H locs hP => ?_)
        exact hB79 _ _ h _ _ _ hP (lv_sub hl [2, 1] rfl)
      · rw [if_pos c25] at h
        refine lv_aload_n hx hb dX6_steps_52 rfl (lv_at hl 1 rfl) ?_
        refine lv_iconst (v := 2) hx hb dX6_steps_53 (by decide) ?_
        obtain ⟨q13, hq13, h⟩ := ob h
        refine vu_i hP (vu_V S hF hP (h := 26) (hlt _ (by decide)) rfl (by decide) rfl (c_X6_fails l P hA hn q7.2 2 hq13) ok_X6_fails ml_X6_77 ⟨Nat.le_of_ble_eq_true rfl, Nat.le_of_ble_eq_true rfl⟩ rfl hl.1 rfl (Nat.le_of_ble_eq_true rfl) dX6_steps_54 ⟨Nat.le_of_ble_eq_true rfl, Nat.le_of_ble_eq_true rfl⟩) (fun H locs ho14 hP => ?_)
        obtain rfl := Option.some.inj h
        exact ve_i (v := q13.1) S hF hP hr hk rfl dX6_steps_57
    · rw [if_neg c24] at h
      refine lv_aload_n hx hb dX6_steps_31 rfl (lv_at hl 1 rfl) ?_
      refine lv_iconst (v := 4) hx hb dX6_steps_32 (by decide) ?_
      refine lv_aload_n hx hb dX6_steps_33 rfl (lv_at hl 1 rfl) ?_
      obtain ⟨q15, hq15, h⟩ := ob h
      refine vu_i hP (vu_V S hF hP (h := 26) (hlt _ (by decide)) rfl (by decide) rfl (c_X6_places l P hA hn q5.2 hq15) ok_X6_places ml_X6_66 ⟨Nat.le_of_ble_eq_true rfl, Nat.le_of_ble_eq_true rfl⟩ rfl hl.1 rfl (Nat.le_of_ble_eq_true rfl) dX6_steps_34 ⟨Nat.le_of_ble_eq_true rfl, Nat.le_of_ble_eq_true rfl⟩) (fun H locs ho16 hP => ?_)
      refine lv_iload_n hx hb dX6_steps_37 rfl (lv_at hl 0 rfl) ?_
      refine lv_isub hx hb dX6_steps_38 ?_
      refine lv_iconst (v := 1) hx hb dX6_steps_39 (by decide) ?_
      obtain ⟨q17, hq17, h⟩ := ob h
      refine vu_i hP (vu_V S hF hP (h := 26) (hlt _ (by decide)) rfl (by decide) rfl (c_X6_refused l P hA hn q5.2 4 (q15 - q1.1) 1 hq17) ok_X6_refused ml_X6_94 ⟨Nat.le_of_ble_eq_true rfl, Nat.le_of_ble_eq_true rfl⟩ rfl hl.1 rfl (Nat.le_of_ble_eq_true rfl) dX6_steps_40 ⟨Nat.le_of_ble_eq_true rfl, Nat.le_of_ble_eq_true rfl⟩) (fun H locs ho18 hP => ?_)
      obtain rfl := Option.some.inj h
      exact ve_i (v := q17.1) S hF hP hr hk rfl dX6_steps_43
  · rw [if_pos c23] at h
    refine lv_aload_n hx hb dX6_steps_13 rfl (lv_at hl 1 rfl) ?_
    refine lv_iconst (v := 5) hx hb dX6_steps_14 (by decide) ?_
    refine lv_aload_n hx hb dX6_steps_15 rfl (lv_at hl 1 rfl) ?_
    obtain ⟨q19, hq19, h⟩ := ob h
    refine vu_i hP (vu_V S hF hP (h := 26) (hlt _ (by decide)) rfl (by decide) rfl (c_X6_places l P hA hn q1.2 hq19) ok_X6_places ml_X6_66 ⟨Nat.le_of_ble_eq_true rfl, Nat.le_of_ble_eq_true rfl⟩ rfl hl.1 rfl (Nat.le_of_ble_eq_true rfl) dX6_steps_16 ⟨Nat.le_of_ble_eq_true rfl, Nat.le_of_ble_eq_true rfl⟩) (fun H locs ho20 hP => ?_)
    refine lv_iconst (v := 1) hx hb dX6_steps_19 (by decide) ?_
    obtain ⟨q21, hq21, h⟩ := ob h
    refine vu_i hP (vu_V S hF hP (h := 26) (hlt _ (by decide)) rfl (by decide) rfl (c_X6_refused l P hA hn q1.2 5 q19 1 hq21) ok_X6_refused ml_X6_94 ⟨Nat.le_of_ble_eq_true rfl, Nat.le_of_ble_eq_true rfl⟩ rfl hl.1 rfl (Nat.le_of_ble_eq_true rfl) dX6_steps_20 ⟨Nat.le_of_ble_eq_true rfl, Nat.le_of_ble_eq_true rfl⟩) (fun H locs ho22 hP => ?_)
    obtain rfl := Option.some.inj h
    exact ve_i (v := q21.1) S hF hP hr hk rfl dX6_steps_23
set_option maxRecDepth 100000 in
set_option maxHeartbeats 4000000 in
theorem c_X6_step (l : Launch) (P : Pl) (hA : Adr P) (hn : 36 ≤ P.2.2.2.1) (w : Wo) {r : Int32 × Wo} (h : F_X6_step w = some r) : CtI l P yX6_step cX6_step 1 (some .int) 5 [.ref (P.2.1 26)] w r.1 r.2 := by
  have hlt : ∀ h, h < 36 → h < P.2.2.2.1 := fun h q => Nat.lt_of_lt_of_le q hn
  refine vs_met hA (by decide +kernel) (Nat.le_of_ble_eq_true rfl) (fun p e s m args below meth c ls S hF hP hl hr hk => ?_)
  have hx := S.1
  have hb := S.2.1
  replace hl : lv_has ls 1 [(0, .ref (P.2.1 26))] := hl
  unfold F_X6_step at h
  refine lv_aload_n hx hb dX6_step_0 rfl (lv_at hl 0 rfl) ?_
  obtain ⟨q1, hq1, h⟩ := ob h
  refine vu_v hP (vu_V S hF hP (h := 26) (hlt _ (by decide)) rfl (by decide) rfl (c_X6_looksBack l P hA hn w hq1) ok_X6_looksBack ml_X6_84 ⟨Nat.le_of_ble_eq_true rfl, Nat.le_of_ble_eq_true rfl⟩ rfl hl.1 rfl (Nat.le_of_ble_eq_true rfl) dX6_step_1 ⟨Nat.le_of_ble_eq_true rfl, Nat.le_of_ble_eq_true rfl⟩) (fun H locs hP => ?_)
  refine lv_aload_n hx hb dX6_step_4 rfl (lv_at hl 0 rfl) ?_
  refine lv_aload_n hx hb dX6_step_5 rfl (lv_at hl 0 rfl) ?_
  obtain ⟨q2, hq2, h⟩ := ob h
  refine vu_i hP (vu_V S hF hP (h := 26) (hlt _ (by decide)) rfl (by decide) rfl (c_X6_steps l P hA hn q1 hq2) ok_X6_steps ml_X6_190 ⟨Nat.le_of_ble_eq_true rfl, Nat.le_of_ble_eq_true rfl⟩ rfl hl.1 rfl (Nat.le_of_ble_eq_true rfl) dX6_step_6 ⟨Nat.le_of_ble_eq_true rfl, Nat.le_of_ble_eq_true rfl⟩) (fun H locs ho3 hP => ?_)
  obtain ⟨q4, hq4, h⟩ := ob h
  refine vu_i hP (vu_V S hF hP (h := 26) (hlt _ (by decide)) rfl (by decide) rfl (c_X6_kept l P hA hn q2.2 q2.1 hq4) ok_X6_kept ml_X6_91 ⟨Nat.le_of_ble_eq_true rfl, Nat.le_of_ble_eq_true rfl⟩ rfl hl.1 rfl (Nat.le_of_ble_eq_true rfl) dX6_step_9 ⟨Nat.le_of_ble_eq_true rfl, Nat.le_of_ble_eq_true rfl⟩) (fun H locs ho5 hP => ?_)
  obtain rfl := Option.some.inj h
  exact ve_i (v := q4.1) S hF hP hr hk rfl dX6_step_12
set_option maxRecDepth 100000 in
set_option maxHeartbeats 4000000 in
theorem c_X6_letter (l : Launch) (P : Pl) (hA : Adr P) (hn : 36 ≤ P.2.2.2.1) (w : Wo) (x1 : Int32) {r : Int32 × Wo} (h : F_X6_letter w x1 = some r) : CtI l P yX6_letter cX6_letter 2 (some .char) 2 [.ref (P.2.1 26), .int x1] w r.1 r.2 := by
  have hlt : ∀ h, h < 36 → h < P.2.2.2.1 := fun h q => Nat.lt_of_lt_of_le q hn
  refine vs_met hA (by decide +kernel) (Nat.le_of_ble_eq_true rfl) (fun p e s m args below meth c ls S hF hP hl hr hk => ?_)
  have hx := S.1
  have hb := S.2.1
  replace hl : lv_has ls 2 [(0, .ref (P.2.1 26)), (1, .int x1)] := hl
  have hB17 : ∀ (w : Wo) (x1 : Int32), B_X6_letter_17 w x1 = some r → ∀ (H : Heap) (locs : List Loc) (ls : Array Slot), St P s w H locs → lv_has ls 2 [(0, .ref (P.2.1 26)), (1, .int x1)] → W p l e (rmU 2 0 0) s m args below meth c H locs 0 0 (QI P (some .char) r.1 r.2 below args s) (F0 m 17 ls []) := by
    intro w x1 h H locs ls hP hl
    unfold B_X6_letter_17 at h
    refine lv_aload_n hx hb dX6_letter_17 rfl (lv_at hl 0 rfl) ?_
    refine vt_getI S hF hP (k := 14) (ci := 6) 26 (hlt _ (by decide)) rfl (by decide) rfl (by decide) rfl (inC_X6 _) (List.mem_cons_of_mem _ fl_X6_46) dX6_letter_18 ?_
    refine lv_if_ne (tgt := 39) hx hb dX6_letter_21 (by decide) (fun c4 => ?_) (fun c4 => ?_)
    · rw [if_neg c4] at h
      refine lv_iconst (v := 0) hx hb dX6_letter_39 (by decide) ?_
      obtain rfl := Option.some.inj h
      exact ve_i (v := 0) S hF hP hr hk rfl dX6_letter_40
    · rw [if_pos c4] at h
      refine lv_aload_n hx hb dX6_letter_24 rfl (lv_at hl 0 rfl) ?_
      refine vt_getR (r := 27) S hF hP (k := 0) (ci := 6) 26 (hlt _ (by decide)) rfl (by decide) rfl (by decide) rfl rfl (inC_X6 _) (List.mem_cons_of_mem _ fl_X6_7) dX6_letter_25 ?_
      refine lv_bipush (v := 14) hx hb dX6_letter_28 (by decide) ?_
      refine lv_iload_n hx hb dX6_letter_30 rfl (lv_at hl 1 rfl) ?_
      refine lv_iadd hx hb dX6_letter_31 ?_
      obtain ⟨c5, h⟩ := chk h
      refine vt_iald S hF hP (hlt _ (by decide)) rfl c5 dX6_letter_32 ?_
      refine vu_i hP (vu_S S hF hP (c_X6_signOf l P hA hn w (gI w 27 (Int32.toNatClampNeg ((14 : Int32) + x1)))) ok_X6_signOf ml_X6_98 ⟨Nat.le_of_ble_eq_true rfl, Nat.le_of_ble_eq_true rfl⟩ rfl hl.1 rfl (Nat.le_of_ble_eq_true rfl) dX6_letter_33 ⟨Nat.le_of_ble_eq_true rfl, Nat.le_of_ble_eq_true rfl⟩) (fun H locs ho3 hP => ?_)
      refine lv_goto (tgt := 40) hx hb dX6_letter_36 (by decide) ?_
      obtain rfl := Option.some.inj h
      exact ve_i (v := (F_X6_signOf (gI w 27 (Int32.toNatClampNeg ((14 : Int32) + x1))))) S hF hP hr hk ho3 dX6_letter_40
  have hB14 : ∀ (w : Wo) (x1 : Int32) (t0 : Int32), B_X6_letter_14 w x1 t0 = some r → ∀ (H : Heap) (locs : List Loc) (ls : Array Slot), St P s w H locs → lv_has ls 2 [(0, .ref (P.2.1 26)), (1, .int x1)] → W p l e (rmU 2 0 0) s m args below meth c H locs 0 0 (QI P (some .char) r.1 r.2 below args s) (F0 m 14 ls [.int t0, .ref (P.2.1 26)]) := by
    intro w x1 t0 h H locs ls hP hl
    unfold B_X6_letter_14 at h
    refine vt_putI S hF hP (k := 14) (ci := 6) 26 (hlt _ (by decide)) rfl (by decide) rfl (by decide) rfl tyX6 tyX6_ok nmX6 rfl rfl rfl rfl (by decide) (inC_X6 _) (List.mem_cons_of_mem _ fl_X6_46) dX6_letter_14 (fun H locs hP => ?_)
    exact hB17 _ _ h _ _ _ hP (lv_sub hl [0, 1] rfl)
  unfold F_X6_letter at h
  refine lv_aload_n hx hb dX6_letter_0 rfl (lv_at hl 0 rfl) ?_
  refine lv_aload_n hx hb dX6_letter_1 rfl (lv_at hl 0 rfl) ?_
  refine lv_iload_n hx hb dX6_letter_2 rfl (lv_at hl 1 rfl) ?_
  obtain ⟨q1, hq1, h⟩ := ob h
  refine vu_i hP (vu_V S hF hP (h := 26) (hlt _ (by decide)) rfl (by decide) rfl (c_X6_isPlace l P hA hn w x1 hq1) ok_X6_isPlace ml_X6_102 ⟨Nat.le_of_ble_eq_true rfl, Nat.le_of_ble_eq_true rfl⟩ rfl hl.1 rfl (Nat.le_of_ble_eq_true rfl) dX6_letter_3 ⟨Nat.le_of_ble_eq_true rfl, Nat.le_of_ble_eq_true rfl⟩) (fun H locs ho2 hP => ?_)
  refine lv_if_eq (tgt := 13) hx hb dX6_letter_6 (by decide) (fun c6 => ?_) (fun c6 => ?_)
  · rw [if_pos c6] at h
    refine lv_iconst (v := 1) hx hb dX6_letter_13 (by decide) ?_
    exact hB14 _ _ _ h _ _ _ hP (lv_sub hl [0, 1] rfl)
  · rw [if_neg c6] at h
    refine lv_iconst (v := 0) hx hb dX6_letter_9 (by decide) ?_
    refine lv_goto (tgt := 14) hx hb dX6_letter_10 (by decide) ?_
    exact hB14 _ _ _ h _ _ _ hP (lv_sub hl [0, 1] rfl)
set_option maxRecDepth 100000 in
set_option maxHeartbeats 4000000 in
theorem c_X6_sign (l : Launch) (P : Pl) (hA : Adr P) (hn : 36 ≤ P.2.2.2.1) (w : Wo) (x1 : Int32) {r : Int32 × Wo} (h : F_X6_sign w x1 = some r) : CtI l P yX6_sign cX6_sign 2 (some .char) 2 [.ref (P.2.1 26), .int x1] w r.1 r.2 := by
  have hlt : ∀ h, h < 36 → h < P.2.2.2.1 := fun h q => Nat.lt_of_lt_of_le q hn
  refine vs_met hA (by decide +kernel) (Nat.le_of_ble_eq_true rfl) (fun p e s m args below meth c ls S hF hP hl hr hk => ?_)
  have hx := S.1
  have hb := S.2.1
  replace hl : lv_has ls 2 [(0, .ref (P.2.1 26)), (1, .int x1)] := hl
  have hB17 : ∀ (w : Wo) (x1 : Int32), B_X6_sign_17 w x1 = some r → ∀ (H : Heap) (locs : List Loc) (ls : Array Slot), St P s w H locs → lv_has ls 2 [(0, .ref (P.2.1 26)), (1, .int x1)] → W p l e (rmU 2 0 0) s m args below meth c H locs 0 0 (QI P (some .char) r.1 r.2 below args s) (F0 m 17 ls []) := by
    intro w x1 h H locs ls hP hl
    unfold B_X6_sign_17 at h
    refine lv_aload_n hx hb dX6_sign_17 rfl (lv_at hl 0 rfl) ?_
    refine vt_getI S hF hP (k := 14) (ci := 6) 26 (hlt _ (by decide)) rfl (by decide) rfl (by decide) rfl (inC_X6 _) (List.mem_cons_of_mem _ fl_X6_46) dX6_sign_18 ?_
    refine lv_if_ne (tgt := 39) hx hb dX6_sign_21 (by decide) (fun c4 => ?_) (fun c4 => ?_)
    · rw [if_neg c4] at h
      refine lv_iconst (v := 0) hx hb dX6_sign_39 (by decide) ?_
      obtain rfl := Option.some.inj h
      exact ve_i (v := 0) S hF hP hr hk rfl dX6_sign_40
    · rw [if_pos c4] at h
      refine lv_aload_n hx hb dX6_sign_24 rfl (lv_at hl 0 rfl) ?_
      refine vt_getR (r := 27) S hF hP (k := 0) (ci := 6) 26 (hlt _ (by decide)) rfl (by decide) rfl (by decide) rfl rfl (inC_X6 _) (List.mem_cons_of_mem _ fl_X6_7) dX6_sign_25 ?_
      refine lv_bipush (v := 23) hx hb dX6_sign_28 (by decide) ?_
      refine lv_iload_n hx hb dX6_sign_30 rfl (lv_at hl 1 rfl) ?_
      refine lv_iadd hx hb dX6_sign_31 ?_
      obtain ⟨c5, h⟩ := chk h
      refine vt_iald S hF hP (hlt _ (by decide)) rfl c5 dX6_sign_32 ?_
      refine vu_i hP (vu_S S hF hP (c_X6_signOf l P hA hn w (gI w 27 (Int32.toNatClampNeg ((23 : Int32) + x1)))) ok_X6_signOf ml_X6_98 ⟨Nat.le_of_ble_eq_true rfl, Nat.le_of_ble_eq_true rfl⟩ rfl hl.1 rfl (Nat.le_of_ble_eq_true rfl) dX6_sign_33 ⟨Nat.le_of_ble_eq_true rfl, Nat.le_of_ble_eq_true rfl⟩) (fun H locs ho3 hP => ?_)
      refine lv_goto (tgt := 40) hx hb dX6_sign_36 (by decide) ?_
      obtain rfl := Option.some.inj h
      exact ve_i (v := (F_X6_signOf (gI w 27 (Int32.toNatClampNeg ((23 : Int32) + x1))))) S hF hP hr hk ho3 dX6_sign_40
  have hB14 : ∀ (w : Wo) (x1 : Int32) (t0 : Int32), B_X6_sign_14 w x1 t0 = some r → ∀ (H : Heap) (locs : List Loc) (ls : Array Slot), St P s w H locs → lv_has ls 2 [(0, .ref (P.2.1 26)), (1, .int x1)] → W p l e (rmU 2 0 0) s m args below meth c H locs 0 0 (QI P (some .char) r.1 r.2 below args s) (F0 m 14 ls [.int t0, .ref (P.2.1 26)]) := by
    intro w x1 t0 h H locs ls hP hl
    unfold B_X6_sign_14 at h
    refine vt_putI S hF hP (k := 14) (ci := 6) 26 (hlt _ (by decide)) rfl (by decide) rfl (by decide) rfl tyX6 tyX6_ok nmX6 rfl rfl rfl rfl (by decide) (inC_X6 _) (List.mem_cons_of_mem _ fl_X6_46) dX6_sign_14 (fun H locs hP => ?_)
    exact hB17 _ _ h _ _ _ hP (lv_sub hl [0, 1] rfl)
  unfold F_X6_sign at h
  refine lv_aload_n hx hb dX6_sign_0 rfl (lv_at hl 0 rfl) ?_
  refine lv_aload_n hx hb dX6_sign_1 rfl (lv_at hl 0 rfl) ?_
  refine lv_iload_n hx hb dX6_sign_2 rfl (lv_at hl 1 rfl) ?_
  obtain ⟨q1, hq1, h⟩ := ob h
  refine vu_i hP (vu_V S hF hP (h := 26) (hlt _ (by decide)) rfl (by decide) rfl (c_X6_isPlace l P hA hn w x1 hq1) ok_X6_isPlace ml_X6_102 ⟨Nat.le_of_ble_eq_true rfl, Nat.le_of_ble_eq_true rfl⟩ rfl hl.1 rfl (Nat.le_of_ble_eq_true rfl) dX6_sign_3 ⟨Nat.le_of_ble_eq_true rfl, Nat.le_of_ble_eq_true rfl⟩) (fun H locs ho2 hP => ?_)
  refine lv_if_eq (tgt := 13) hx hb dX6_sign_6 (by decide) (fun c6 => ?_) (fun c6 => ?_)
  · rw [if_pos c6] at h
    refine lv_iconst (v := 1) hx hb dX6_sign_13 (by decide) ?_
    exact hB14 _ _ _ h _ _ _ hP (lv_sub hl [0, 1] rfl)
  · rw [if_neg c6] at h
    refine lv_iconst (v := 0) hx hb dX6_sign_9 (by decide) ?_
    refine lv_goto (tgt := 14) hx hb dX6_sign_10 (by decide) ?_
    exact hB14 _ _ _ h _ _ _ hP (lv_sub hl [0, 1] rfl)
set_option maxRecDepth 100000 in
set_option maxHeartbeats 4000000 in
theorem c_X6_isBarred (l : Launch) (P : Pl) (hA : Adr P) (hn : 36 ≤ P.2.2.2.1) (w : Wo) (x1 : Int32) {r : Int32 × Wo} (h : F_X6_isBarred w x1 = some r) : CtI l P yX6_isBarred cX6_isBarred 2 (some .boolean) 2 [.ref (P.2.1 26), .int x1] w r.1 r.2 := by
  have hlt : ∀ h, h < 36 → h < P.2.2.2.1 := fun h q => Nat.lt_of_lt_of_le q hn
  refine vs_met hA (by decide +kernel) (Nat.le_of_ble_eq_true rfl) (fun p e s m args below meth c ls S hF hP hl hr hk => ?_)
  have hx := S.1
  have hb := S.2.1
  replace hl : lv_has ls 2 [(0, .ref (P.2.1 26)), (1, .int x1)] := hl
  have hB17 : ∀ (w : Wo) (x1 : Int32), B_X6_isBarred_17 w x1 = some r → ∀ (H : Heap) (locs : List Loc) (ls : Array Slot), St P s w H locs → lv_has ls 2 [(0, .ref (P.2.1 26)), (1, .int x1)] → W p l e (rmU 2 0 0) s m args below meth c H locs 0 0 (QI P (some .boolean) r.1 r.2 below args s) (F0 m 17 ls []) := by
    intro w x1 h H locs ls hP hl
    unfold B_X6_isBarred_17 at h
    refine lv_aload_n hx hb dX6_isBarred_17 rfl (lv_at hl 0 rfl) ?_
    refine vt_getI S hF hP (k := 14) (ci := 6) 26 (hlt _ (by decide)) rfl (by decide) rfl (by decide) rfl (inC_X6 _) (List.mem_cons_of_mem _ fl_X6_46) dX6_isBarred_18 ?_
    refine lv_if_ne (tgt := 41) hx hb dX6_isBarred_21 (by decide) (fun c3 => ?_) (fun c3 => ?_)
    · rw [if_neg c3] at h
      refine lv_iconst (v := 0) hx hb dX6_isBarred_41 (by decide) ?_
      obtain rfl := Option.some.inj h
      exact ve_i (v := 0) S hF hP hr hk rfl dX6_isBarred_42
    · rw [if_pos c3] at h
      refine lv_aload_n hx hb dX6_isBarred_24 rfl (lv_at hl 0 rfl) ?_
      refine vt_getR (r := 27) S hF hP (k := 0) (ci := 6) 26 (hlt _ (by decide)) rfl (by decide) rfl (by decide) rfl rfl (inC_X6 _) (List.mem_cons_of_mem _ fl_X6_7) dX6_isBarred_25 ?_
      refine lv_bipush (v := 8) hx hb dX6_isBarred_28 (by decide) ?_
      refine lv_iload_n hx hb dX6_isBarred_30 rfl (lv_at hl 1 rfl) ?_
      refine lv_iadd hx hb dX6_isBarred_31 ?_
      obtain ⟨c4, h⟩ := chk h
      refine vt_iald S hF hP (hlt _ (by decide)) rfl c4 dX6_isBarred_32 ?_
      refine lv_iconst (v := 1) hx hb dX6_isBarred_33 (by decide) ?_
      refine lv_icmp_ne (tgt := 41) hx hb dX6_isBarred_34 (by decide) (fun c5 => ?_) (fun c5 => ?_)
      · rw [if_neg c5] at h
        refine lv_iconst (v := 0) hx hb dX6_isBarred_41 (by decide) ?_
        obtain rfl := Option.some.inj h
        exact ve_i (v := 0) S hF hP hr hk rfl dX6_isBarred_42
      · rw [if_pos c5] at h
        refine lv_iconst (v := 1) hx hb dX6_isBarred_37 (by decide) ?_
        refine lv_goto (tgt := 42) hx hb dX6_isBarred_38 (by decide) ?_
        obtain rfl := Option.some.inj h
        exact ve_i (v := 1) S hF hP hr hk rfl dX6_isBarred_42
  have hB14 : ∀ (w : Wo) (x1 : Int32) (t0 : Int32), B_X6_isBarred_14 w x1 t0 = some r → ∀ (H : Heap) (locs : List Loc) (ls : Array Slot), St P s w H locs → lv_has ls 2 [(0, .ref (P.2.1 26)), (1, .int x1)] → W p l e (rmU 2 0 0) s m args below meth c H locs 0 0 (QI P (some .boolean) r.1 r.2 below args s) (F0 m 14 ls [.int t0, .ref (P.2.1 26)]) := by
    intro w x1 t0 h H locs ls hP hl
    unfold B_X6_isBarred_14 at h
    refine vt_putI S hF hP (k := 14) (ci := 6) 26 (hlt _ (by decide)) rfl (by decide) rfl (by decide) rfl tyX6 tyX6_ok nmX6 rfl rfl rfl rfl (by decide) (inC_X6 _) (List.mem_cons_of_mem _ fl_X6_46) dX6_isBarred_14 (fun H locs hP => ?_)
    exact hB17 _ _ h _ _ _ hP (lv_sub hl [0, 1] rfl)
  unfold F_X6_isBarred at h
  refine lv_aload_n hx hb dX6_isBarred_0 rfl (lv_at hl 0 rfl) ?_
  refine lv_aload_n hx hb dX6_isBarred_1 rfl (lv_at hl 0 rfl) ?_
  refine lv_iload_n hx hb dX6_isBarred_2 rfl (lv_at hl 1 rfl) ?_
  obtain ⟨q1, hq1, h⟩ := ob h
  refine vu_i hP (vu_V S hF hP (h := 26) (hlt _ (by decide)) rfl (by decide) rfl (c_X6_isLine l P hA hn w x1 hq1) ok_X6_isLine ml_X6_155 ⟨Nat.le_of_ble_eq_true rfl, Nat.le_of_ble_eq_true rfl⟩ rfl hl.1 rfl (Nat.le_of_ble_eq_true rfl) dX6_isBarred_3 ⟨Nat.le_of_ble_eq_true rfl, Nat.le_of_ble_eq_true rfl⟩) (fun H locs ho2 hP => ?_)
  refine lv_if_eq (tgt := 13) hx hb dX6_isBarred_6 (by decide) (fun c6 => ?_) (fun c6 => ?_)
  · rw [if_pos c6] at h
    refine lv_iconst (v := 1) hx hb dX6_isBarred_13 (by decide) ?_
    exact hB14 _ _ _ h _ _ _ hP (lv_sub hl [0, 1] rfl)
  · rw [if_neg c6] at h
    refine lv_iconst (v := 0) hx hb dX6_isBarred_9 (by decide) ?_
    refine lv_goto (tgt := 14) hx hb dX6_isBarred_10 (by decide) ?_
    exact hB14 _ _ _ h _ _ _ hP (lv_sub hl [0, 1] rfl)
set_option maxRecDepth 100000 in
set_option maxHeartbeats 4000000 in
theorem c_X6_barredLines (l : Launch) (P : Pl) (hA : Adr P) (hn : 36 ≤ P.2.2.2.1) (w : Wo) {r : Int32} (h : F_X6_barredLines w = some r) : CtI l P yX6_barredLines cX6_barredLines 3 (some .int) 1 [.ref (P.2.1 26)] w r w := by
  have hlt : ∀ h, h < 36 → h < P.2.2.2.1 := fun h q => Nat.lt_of_lt_of_le q hn
  refine vs_met hA (by decide +kernel) (Nat.le_of_ble_eq_true rfl) (fun p e s m args below meth c ls S hF hP hl hr hk => ?_)
  have hx := S.1
  have hb := S.2.1
  replace hl : lv_has ls 3 [(0, .ref (P.2.1 26))] := hl
  have hL4 : ∀ (n : Nat) (x1 : Int32) (x2 : Int32), jl2 (B_X6_barredLines_4 w) n x1 x2 = some r → ∀ (H : Heap) (locs : List Loc) (ls : Array Slot), St P s w H locs → lv_has ls 3 [(0, .ref (P.2.1 26)), (1, .int x1), (2, .int x2)] → W p l e (rmU 1 0 0) s m args below meth c H locs 0 0 (QI P (some .int) r w below args s) (F0 m 4 ls []) := by
    intro n
    induction n with
    | zero =>
      intro x1 x2 h
      cases h
    | succ n ih4 =>
      intro x1 x2 h H locs ls hP hl
      replace h : B_X6_barredLines_4 w (jl2 (B_X6_barredLines_4 w) n) x1 x2 = some r := h
      revert h ih4
      generalize jl2 (B_X6_barredLines_4 w) n = k4
      intro ih4 h
      have hB24 : ∀ (x1 : Int32) (x2 : Int32), B_X6_barredLines_24 k4 w x1 x2 = some r → ∀ (H : Heap) (locs : List Loc) (ls : Array Slot), St P s w H locs → lv_has ls 3 [(0, .ref (P.2.1 26)), (1, .int x1), (2, .int x2)] → W p l e (rmU 1 0 0) s m args below meth c H locs 0 0 (QI P (some .int) r w below args s) (F0 m 24 ls []) := by
        intro x1 x2 h H locs ls hP hl
        unfold B_X6_barredLines_24 at h
        refine lv_iinc (v := (x2 + 1)) (lv' := [(2, .int (x2 + 1)), (0, .ref (P.2.1 26)), (1, .int x1)]) hx hb dX6_barredLines_24 hl (k := 2) rfl rfl (by decide) rfl (fun ls hl => ?_)
        refine lv_goto (tgt := 4) hx hb dX6_barredLines_27 (by decide) ?_
        exact ih4 _ _ h _ _ _ hP (lv_sub hl [1, 2, 0] rfl)
      unfold B_X6_barredLines_4 at h
      refine lv_iload_n hx hb dX6_barredLines_4 rfl (lv_at hl 2 rfl) ?_
      refine lv_aload_n hx hb dX6_barredLines_5 rfl (lv_at hl 0 rfl) ?_
      obtain ⟨q1, hq1, h⟩ := ob h
      refine vu_i hP (vu_V S hF hP (h := 26) (hlt _ (by decide)) rfl (by decide) rfl (c_X6_lines l P hA hn w hq1) ok_X6_lines ml_X6_74 ⟨Nat.le_of_ble_eq_true rfl, Nat.le_of_ble_eq_true rfl⟩ rfl hl.1 rfl (Nat.le_of_ble_eq_true rfl) dX6_barredLines_6 ⟨Nat.le_of_ble_eq_true rfl, Nat.le_of_ble_eq_true rfl⟩) (fun H locs ho2 hP => ?_)
      refine lv_icmp_ge (tgt := 30) hx hb dX6_barredLines_9 (by decide) (fun c3 => ?_) (fun c3 => ?_)
      · rw [if_pos c3] at h
        refine lv_iload_n hx hb dX6_barredLines_30 rfl (lv_at hl 1 rfl) ?_
        obtain rfl := Option.some.inj h
        exact ve_i (v := x1) S hF hP hr hk rfl dX6_barredLines_31
      · rw [if_neg c3] at h
        refine lv_iload_n hx hb dX6_barredLines_12 rfl (lv_at hl 1 rfl) ?_
        refine lv_aload_n hx hb dX6_barredLines_13 rfl (lv_at hl 0 rfl) ?_
        refine vt_getR (r := 27) S hF hP (k := 0) (ci := 6) 26 (hlt _ (by decide)) rfl (by decide) rfl (by decide) rfl rfl (inC_X6 _) (List.mem_cons_of_mem _ fl_X6_7) dX6_barredLines_14 ?_
        refine lv_bipush (v := 8) hx hb dX6_barredLines_17 (by decide) ?_
        refine lv_iload_n hx hb dX6_barredLines_19 rfl (lv_at hl 2 rfl) ?_
        refine lv_iadd hx hb dX6_barredLines_20 ?_
        obtain ⟨c4, h⟩ := chk h
        refine vt_iald S hF hP (hlt _ (by decide)) rfl c4 dX6_barredLines_21 ?_
        refine lv_iadd hx hb dX6_barredLines_22 ?_
        refine lv_istore_n (lv' := [(1, .int (x1 + (gI w 27 (Int32.toNatClampNeg ((8 : Int32) + x2))))), (0, .ref (P.2.1 26)), (2, .int x2)]) hx hb dX6_barredLines_23 rfl hl (by decide) rfl (fun ls hl => ?_)
        exact hB24 _ _ h _ _ _ hP (lv_sub hl [1, 0, 2] rfl)
  unfold F_X6_barredLines at h
  refine lv_iconst (v := 0) hx hb dX6_barredLines_0 (by decide) ?_
  refine lv_istore_n (lv' := [(1, .int 0), (0, .ref (P.2.1 26))]) hx hb dX6_barredLines_1 rfl hl (by decide) rfl (fun ls hl => ?_)
  refine lv_iconst (v := 0) hx hb dX6_barredLines_2 (by decide) ?_
  refine lv_istore_n (lv' := [(2, .int 0), (1, .int 0), (0, .ref (P.2.1 26))]) hx hb dX6_barredLines_3 rfl hl (by decide) rfl (fun ls hl => ?_)
  exact hL4 fu _ _ h _ _ _ hP (lv_sub hl [2, 1, 0] rfl)
set_option maxRecDepth 100000 in
set_option maxHeartbeats 4000000 in
theorem c_X6_isVowel (l : Launch) (P : Pl) (hA : Adr P) (hn : 36 ≤ P.2.2.2.1) (w : Wo) (x0 : Int32) : CtI l P yX6_isVowel cX6_isVowel 1 (some .boolean) 0 [.int x0] w (F_X6_isVowel x0) w := by
  have hlt : ∀ h, h < 36 → h < P.2.2.2.1 := fun h q => Nat.lt_of_lt_of_le q hn
  obtain ⟨r, h⟩ : ∃ r, F_X6_isVowel x0 = r := ⟨_, rfl⟩
  rw [h]
  refine vs_met hA (by decide +kernel) (Nat.le_of_ble_eq_true rfl) (fun p e s m args below meth c ls S hF hP hl hr hk => ?_)
  have hx := S.1
  have hb := S.2.1
  replace hl : lv_has ls 1 [(0, .int x0)] := hl
  have hB15 : B_X6_isVowel_15 = r → ∀ (H : Heap) (locs : List Loc) (ls : Array Slot), St P s w H locs → lv_has ls 1 [] → W p l e (rmU 0 0 0) s m args below meth c H locs 0 0 (QI P (some .boolean) r w below args s) (F0 m 15 ls []) := by
    intro h H locs ls hP hl
    unfold B_X6_isVowel_15 at h
    refine lv_iconst (v := 1) hx hb dX6_isVowel_15 (by decide) ?_
    refine lv_goto (tgt := 20) hx hb dX6_isVowel_16 (by decide) ?_
    subst h
    exact ve_i (v := 1) S hF hP hr hk rfl dX6_isVowel_20
  unfold F_X6_isVowel at h
  refine lv_iload_n hx hb dX6_isVowel_0 rfl (lv_at hl 0 rfl) ?_
  refine lv_if_eq (tgt := 15) hx hb dX6_isVowel_1 (by decide) (fun c1 => ?_) (fun c1 => ?_)
  · rw [if_pos c1] at h
    exact hB15 h _ _ _ hP (lv_sub hl [] rfl)
  · rw [if_neg c1] at h
    refine lv_iload_n hx hb dX6_isVowel_4 rfl (lv_at hl 0 rfl) ?_
    refine lv_iconst (v := 4) hx hb dX6_isVowel_5 (by decide) ?_
    refine lv_icmp_eq (tgt := 15) hx hb dX6_isVowel_6 (by decide) (fun c2 => ?_) (fun c2 => ?_)
    · rw [if_pos c2] at h
      exact hB15 h _ _ _ hP (lv_sub hl [] rfl)
    · rw [if_neg c2] at h
      refine lv_iload_n hx hb dX6_isVowel_9 rfl (lv_at hl 0 rfl) ?_
      refine lv_bipush (v := 8) hx hb dX6_isVowel_10 (by decide) ?_
      refine lv_icmp_ne (tgt := 19) hx hb dX6_isVowel_12 (by decide) (fun c3 => ?_) (fun c3 => ?_)
      · rw [if_neg c3] at h
        refine lv_iconst (v := 0) hx hb dX6_isVowel_19 (by decide) ?_
        subst h
        exact ve_i (v := 0) S hF hP hr hk rfl dX6_isVowel_20
      · rw [if_pos c3] at h
        exact hB15 h _ _ _ hP (lv_sub hl [] rfl)
set_option maxRecDepth 100000 in
set_option maxHeartbeats 4000000 in
theorem c_X6_boardOf (l : Launch) (P : Pl) (hA : Adr P) (hn : 36 ≤ P.2.2.2.1) (w : Wo) (x1 : Int32) {r : Int32 × Wo} (h : F_X6_boardOf w x1 = some r) : CtI l P yX6_boardOf cX6_boardOf 2 (some .int) 3 [.ref (P.2.1 26), .int x1] w r.1 r.2 := by
  have hlt : ∀ h, h < 36 → h < P.2.2.2.1 := fun h q => Nat.lt_of_lt_of_le q hn
  refine vs_met hA (by decide +kernel) (Nat.le_of_ble_eq_true rfl) (fun p e s m args below meth c ls S hF hP hl hr hk => ?_)
  have hx := S.1
  have hb := S.2.1
  replace hl : lv_has ls 2 [(0, .ref (P.2.1 26)), (1, .int x1)] := hl
  unfold F_X6_boardOf at h
  refine lv_iload_n hx hb dX6_boardOf_0 rfl (lv_at hl 1 rfl) ?_
  by_cases c33 : x1 = 0
  · rw [if_pos c33] at h
    refine lv_tableIn (off := 43) (tgt := 44) hx hb dX6_boardOf_1 (by rw [c33]; decide) (by rw [c33]; decide) (by rw [c33]; rfl) (by decide) ?_
    refine lv_aload_n hx hb dX6_boardOf_44 rfl (lv_at hl 0 rfl) ?_
    refine lv_aload_n hx hb dX6_boardOf_45 rfl (lv_at hl 0 rfl) ?_
    refine vt_getR (r := 27) S hF hP (k := 0) (ci := 6) 26 (hlt _ (by decide)) rfl (by decide) rfl (by decide) rfl rfl (inC_X6 _) (List.mem_cons_of_mem _ fl_X6_7) dX6_boardOf_46 ?_
    refine lv_iload_n hx hb dX6_boardOf_49 rfl (lv_at hl 1 rfl) ?_
    obtain ⟨c34, h⟩ := chk h
    refine vt_iald S hF hP (hlt _ (by decide)) rfl c34 dX6_boardOf_50 ?_
    obtain ⟨q1, hq1, h⟩ := ob h
    refine vu_i hP (vu_V S hF hP (h := 26) (hlt _ (by decide)) rfl (by decide) rfl (c_X6_done l P hA hn w (gI w 27 (Int32.toNatClampNeg x1)) hq1) ok_X6_done ml_X6_81 ⟨Nat.le_of_ble_eq_true rfl, Nat.le_of_ble_eq_true rfl⟩ rfl hl.1 rfl (Nat.le_of_ble_eq_true rfl) dX6_boardOf_51 ⟨Nat.le_of_ble_eq_true rfl, Nat.le_of_ble_eq_true rfl⟩) (fun H locs ho2 hP => ?_)
    obtain rfl := Option.some.inj h
    exact ve_i (v := q1.1) S hF hP hr hk rfl dX6_boardOf_54
  rw [if_neg c33] at h
  by_cases c35 : x1 = 1
  · rw [if_pos c35] at h
    refine lv_tableIn (off := 43) (tgt := 44) hx hb dX6_boardOf_1 (by rw [c35]; decide) (by rw [c35]; decide) (by rw [c35]; rfl) (by decide) ?_
    refine lv_aload_n hx hb dX6_boardOf_44 rfl (lv_at hl 0 rfl) ?_
    refine lv_aload_n hx hb dX6_boardOf_45 rfl (lv_at hl 0 rfl) ?_
    refine vt_getR (r := 27) S hF hP (k := 0) (ci := 6) 26 (hlt _ (by decide)) rfl (by decide) rfl (by decide) rfl rfl (inC_X6 _) (List.mem_cons_of_mem _ fl_X6_7) dX6_boardOf_46 ?_
    refine lv_iload_n hx hb dX6_boardOf_49 rfl (lv_at hl 1 rfl) ?_
    obtain ⟨c36, h⟩ := chk h
    refine vt_iald S hF hP (hlt _ (by decide)) rfl c36 dX6_boardOf_50 ?_
    obtain ⟨q3, hq3, h⟩ := ob h
    refine vu_i hP (vu_V S hF hP (h := 26) (hlt _ (by decide)) rfl (by decide) rfl (c_X6_done l P hA hn w (gI w 27 (Int32.toNatClampNeg x1)) hq3) ok_X6_done ml_X6_81 ⟨Nat.le_of_ble_eq_true rfl, Nat.le_of_ble_eq_true rfl⟩ rfl hl.1 rfl (Nat.le_of_ble_eq_true rfl) dX6_boardOf_51 ⟨Nat.le_of_ble_eq_true rfl, Nat.le_of_ble_eq_true rfl⟩) (fun H locs ho4 hP => ?_)
    obtain rfl := Option.some.inj h
    exact ve_i (v := q3.1) S hF hP hr hk rfl dX6_boardOf_54
  rw [if_neg c35] at h
  by_cases c37 : x1 = 2
  · rw [if_pos c37] at h
    refine lv_tableIn (off := 54) (tgt := 55) hx hb dX6_boardOf_1 (by rw [c37]; decide) (by rw [c37]; decide) (by rw [c37]; rfl) (by decide) ?_
    refine lv_aload_n hx hb dX6_boardOf_55 rfl (lv_at hl 0 rfl) ?_
    refine lv_iconst (v := 2) hx hb dX6_boardOf_56 (by decide) ?_
    refine lv_aload_n hx hb dX6_boardOf_57 rfl (lv_at hl 0 rfl) ?_
    obtain ⟨q5, hq5, h⟩ := ob h
    refine vu_i hP (vu_V S hF hP (h := 26) (hlt _ (by decide)) rfl (by decide) rfl (c_X6_lines l P hA hn w hq5) ok_X6_lines ml_X6_74 ⟨Nat.le_of_ble_eq_true rfl, Nat.le_of_ble_eq_true rfl⟩ rfl hl.1 rfl (Nat.le_of_ble_eq_true rfl) dX6_boardOf_58 ⟨Nat.le_of_ble_eq_true rfl, Nat.le_of_ble_eq_true rfl⟩) (fun H locs ho6 hP => ?_)
    refine lv_imul hx hb dX6_boardOf_61 ?_
    obtain ⟨q7, hq7, h⟩ := ob h
    refine vu_i hP (vu_V S hF hP (h := 26) (hlt _ (by decide)) rfl (by decide) rfl (c_X6_done l P hA hn w ((2 : Int32) * q5) hq7) ok_X6_done ml_X6_81 ⟨Nat.le_of_ble_eq_true rfl, Nat.le_of_ble_eq_true rfl⟩ rfl hl.1 rfl (Nat.le_of_ble_eq_true rfl) dX6_boardOf_62 ⟨Nat.le_of_ble_eq_true rfl, Nat.le_of_ble_eq_true rfl⟩) (fun H locs ho8 hP => ?_)
    obtain rfl := Option.some.inj h
    exact ve_i (v := q7.1) S hF hP hr hk rfl dX6_boardOf_65
  rw [if_neg c37] at h
  by_cases c38 : x1 = 3
  · rw [if_pos c38] at h
    refine lv_tableIn (off := 65) (tgt := 66) hx hb dX6_boardOf_1 (by rw [c38]; decide) (by rw [c38]; decide) (by rw [c38]; rfl) (by decide) ?_
    refine lv_aload_n hx hb dX6_boardOf_66 rfl (lv_at hl 0 rfl) ?_
    refine lv_iconst (v := 2) hx hb dX6_boardOf_67 (by decide) ?_
    refine lv_aload_n hx hb dX6_boardOf_68 rfl (lv_at hl 0 rfl) ?_
    obtain ⟨q9, hq9, h⟩ := ob h
    refine vu_i hP (vu_V S hF hP (h := 26) (hlt _ (by decide)) rfl (by decide) rfl (c_X6_lines l P hA hn w hq9) ok_X6_lines ml_X6_74 ⟨Nat.le_of_ble_eq_true rfl, Nat.le_of_ble_eq_true rfl⟩ rfl hl.1 rfl (Nat.le_of_ble_eq_true rfl) dX6_boardOf_69 ⟨Nat.le_of_ble_eq_true rfl, Nat.le_of_ble_eq_true rfl⟩) (fun H locs ho10 hP => ?_)
    refine lv_aload_n hx hb dX6_boardOf_72 rfl (lv_at hl 0 rfl) ?_
    obtain ⟨q11, hq11, h⟩ := ob h
    refine vu_i hP (vu_V S hF hP (h := 26) (hlt _ (by decide)) rfl (by decide) rfl (c_X6_barredLines l P hA hn w hq11) ok_X6_barredLines ml_X6_193 ⟨Nat.le_of_ble_eq_true rfl, Nat.le_of_ble_eq_true rfl⟩ rfl hl.1 rfl (Nat.le_of_ble_eq_true rfl) dX6_boardOf_73 ⟨Nat.le_of_ble_eq_true rfl, Nat.le_of_ble_eq_true rfl⟩) (fun H locs ho12 hP => ?_)
    refine lv_isub hx hb dX6_boardOf_76 ?_
    refine lv_imul hx hb dX6_boardOf_77 ?_
    obtain ⟨q13, hq13, h⟩ := ob h
    refine vu_i hP (vu_V S hF hP (h := 26) (hlt _ (by decide)) rfl (by decide) rfl (c_X6_done l P hA hn w ((2 : Int32) * (q9 - q11)) hq13) ok_X6_done ml_X6_81 ⟨Nat.le_of_ble_eq_true rfl, Nat.le_of_ble_eq_true rfl⟩ rfl hl.1 rfl (Nat.le_of_ble_eq_true rfl) dX6_boardOf_78 ⟨Nat.le_of_ble_eq_true rfl, Nat.le_of_ble_eq_true rfl⟩) (fun H locs ho14 hP => ?_)
    obtain rfl := Option.some.inj h
    exact ve_i (v := q13.1) S hF hP hr hk rfl dX6_boardOf_81
  rw [if_neg c38] at h
  by_cases c39 : x1 = 4
  · rw [if_pos c39] at h
    refine lv_tableIn (off := 81) (tgt := 82) hx hb dX6_boardOf_1 (by rw [c39]; decide) (by rw [c39]; decide) (by rw [c39]; rfl) (by decide) ?_
    refine lv_aload_n hx hb dX6_boardOf_82 rfl (lv_at hl 0 rfl) ?_
    refine lv_aload_n hx hb dX6_boardOf_83 rfl (lv_at hl 0 rfl) ?_
    obtain ⟨q15, hq15, h⟩ := ob h
    refine vu_i hP (vu_V S hF hP (h := 26) (hlt _ (by decide)) rfl (by decide) rfl (c_X6_unlike l P hA hn w hq15) ok_X6_unlike ml_X6_181 ⟨Nat.le_of_ble_eq_true rfl, Nat.le_of_ble_eq_true rfl⟩ rfl hl.1 rfl (Nat.le_of_ble_eq_true rfl) dX6_boardOf_84 ⟨Nat.le_of_ble_eq_true rfl, Nat.le_of_ble_eq_true rfl⟩) (fun H locs ho16 hP => ?_)
    obtain ⟨q17, hq17, h⟩ := ob h
    refine vu_i hP (vu_V S hF hP (h := 26) (hlt _ (by decide)) rfl (by decide) rfl (c_X6_done l P hA hn w q15 hq17) ok_X6_done ml_X6_81 ⟨Nat.le_of_ble_eq_true rfl, Nat.le_of_ble_eq_true rfl⟩ rfl hl.1 rfl (Nat.le_of_ble_eq_true rfl) dX6_boardOf_87 ⟨Nat.le_of_ble_eq_true rfl, Nat.le_of_ble_eq_true rfl⟩) (fun H locs ho18 hP => ?_)
    obtain rfl := Option.some.inj h
    exact ve_i (v := q17.1) S hF hP hr hk rfl dX6_boardOf_90
  rw [if_neg c39] at h
  by_cases c40 : x1 = 5
  · rw [if_pos c40] at h
    refine lv_tableIn (off := 90) (tgt := 91) hx hb dX6_boardOf_1 (by rw [c40]; decide) (by rw [c40]; decide) (by rw [c40]; rfl) (by decide) ?_
    refine lv_aload_n hx hb dX6_boardOf_91 rfl (lv_at hl 0 rfl) ?_
    refine lv_aload_n hx hb dX6_boardOf_92 rfl (lv_at hl 0 rfl) ?_
    refine lv_bipush (v := 14) hx hb dX6_boardOf_93 (by decide) ?_
    refine lv_iconst (v := 0) hx hb dX6_boardOf_95 (by decide) ?_
    obtain ⟨q19, hq19, h⟩ := ob h
    refine vu_i hP (vu_V S hF hP (h := 26) (hlt _ (by decide)) rfl (by decide) rfl (c_X6_timesOf l P hA hn w 14 0 hq19) ok_X6_timesOf ml_X6_174 ⟨Nat.le_of_ble_eq_true rfl, Nat.le_of_ble_eq_true rfl⟩ rfl hl.1 rfl (Nat.le_of_ble_eq_true rfl) dX6_boardOf_96 ⟨Nat.le_of_ble_eq_true rfl, Nat.le_of_ble_eq_true rfl⟩) (fun H locs ho20 hP => ?_)
    refine lv_aload_n hx hb dX6_boardOf_99 rfl (lv_at hl 0 rfl) ?_
    refine lv_bipush (v := 14) hx hb dX6_boardOf_100 (by decide) ?_
    refine lv_iconst (v := 4) hx hb dX6_boardOf_102 (by decide) ?_
    obtain ⟨q21, hq21, h⟩ := ob h
    refine vu_i hP (vu_V S hF hP (h := 26) (hlt _ (by decide)) rfl (by decide) rfl (c_X6_timesOf l P hA hn w 14 4 hq21) ok_X6_timesOf ml_X6_174 ⟨Nat.le_of_ble_eq_true rfl, Nat.le_of_ble_eq_true rfl⟩ rfl hl.1 rfl (Nat.le_of_ble_eq_true rfl) dX6_boardOf_103 ⟨Nat.le_of_ble_eq_true rfl, Nat.le_of_ble_eq_true rfl⟩) (fun H locs ho22 hP => ?_)
    refine lv_iadd hx hb dX6_boardOf_106 ?_
    refine lv_aload_n hx hb dX6_boardOf_107 rfl (lv_at hl 0 rfl) ?_
    refine lv_bipush (v := 14) hx hb dX6_boardOf_108 (by decide) ?_
    refine lv_bipush (v := 8) hx hb dX6_boardOf_110 (by decide) ?_
    obtain ⟨q23, hq23, h⟩ := ob h
    refine vu_i hP (vu_V S hF hP (h := 26) (hlt _ (by decide)) rfl (by decide) rfl (c_X6_timesOf l P hA hn w 14 8 hq23) ok_X6_timesOf ml_X6_174 ⟨Nat.le_of_ble_eq_true rfl, Nat.le_of_ble_eq_true rfl⟩ rfl hl.1 rfl (Nat.le_of_ble_eq_true rfl) dX6_boardOf_112 ⟨Nat.le_of_ble_eq_true rfl, Nat.le_of_ble_eq_true rfl⟩) (fun H locs ho24 hP => ?_)
    refine lv_iadd hx hb dX6_boardOf_115 ?_
    obtain ⟨q25, hq25, h⟩ := ob h
    refine vu_i hP (vu_V S hF hP (h := 26) (hlt _ (by decide)) rfl (by decide) rfl (c_X6_done l P hA hn w ((q19 + q21) + q23) hq25) ok_X6_done ml_X6_81 ⟨Nat.le_of_ble_eq_true rfl, Nat.le_of_ble_eq_true rfl⟩ rfl hl.1 rfl (Nat.le_of_ble_eq_true rfl) dX6_boardOf_116 ⟨Nat.le_of_ble_eq_true rfl, Nat.le_of_ble_eq_true rfl⟩) (fun H locs ho26 hP => ?_)
    obtain rfl := Option.some.inj h
    exact ve_i (v := q25.1) S hF hP hr hk rfl dX6_boardOf_119
  rw [if_neg c40] at h
  by_cases c41 : x1 = 6
  · rw [if_pos c41] at h
    refine lv_tableIn (off := 119) (tgt := 120) hx hb dX6_boardOf_1 (by rw [c41]; decide) (by rw [c41]; decide) (by rw [c41]; rfl) (by decide) ?_
    refine lv_aload_n hx hb dX6_boardOf_120 rfl (lv_at hl 0 rfl) ?_
    refine lv_aload_n hx hb dX6_boardOf_121 rfl (lv_at hl 0 rfl) ?_
    refine lv_bipush (v := 23) hx hb dX6_boardOf_122 (by decide) ?_
    refine lv_iconst (v := (-1)) hx hb dX6_boardOf_124 (by decide) ?_
    obtain ⟨q27, hq27, h⟩ := ob h
    refine vu_i hP (vu_V S hF hP (h := 26) (hlt _ (by decide)) rfl (by decide) rfl (c_X6_timesOf l P hA hn w 23 (-1) hq27) ok_X6_timesOf ml_X6_174 ⟨Nat.le_of_ble_eq_true rfl, Nat.le_of_ble_eq_true rfl⟩ rfl hl.1 rfl (Nat.le_of_ble_eq_true rfl) dX6_boardOf_125 ⟨Nat.le_of_ble_eq_true rfl, Nat.le_of_ble_eq_true rfl⟩) (fun H locs ho28 hP => ?_)
    obtain ⟨q29, hq29, h⟩ := ob h
    refine vu_i hP (vu_V S hF hP (h := 26) (hlt _ (by decide)) rfl (by decide) rfl (c_X6_done l P hA hn w q27 hq29) ok_X6_done ml_X6_81 ⟨Nat.le_of_ble_eq_true rfl, Nat.le_of_ble_eq_true rfl⟩ rfl hl.1 rfl (Nat.le_of_ble_eq_true rfl) dX6_boardOf_128 ⟨Nat.le_of_ble_eq_true rfl, Nat.le_of_ble_eq_true rfl⟩) (fun H locs ho30 hP => ?_)
    obtain rfl := Option.some.inj h
    exact ve_i (v := q29.1) S hF hP hr hk rfl dX6_boardOf_131
  rw [if_neg c41] at h
  refine lv_tableOut (tgt := 132) hx hb dX6_boardOf_1 (sw_out (fun i i1 i2 => ?_)) (by decide) ?_
  · have i3 : i = 0 ∨ i = 1 ∨ i = 2 ∨ i = 3 ∨ i = 4 ∨ i = 5 ∨ i = 6 := by omega
    rcases i3 with rfl | rfl | rfl | rfl | rfl | rfl | rfl
    · exact c33
    · exact c35
    · exact c37
    · exact c38
    · exact c39
    · exact c40
    · exact c41
  refine lv_aload_n hx hb dX6_boardOf_132 rfl (lv_at hl 0 rfl) ?_
  refine lv_iconst (v := 1) hx hb dX6_boardOf_133 (by decide) ?_
  obtain ⟨q31, hq31, h⟩ := ob h
  refine vu_i hP (vu_V S hF hP (h := 26) (hlt _ (by decide)) rfl (by decide) rfl (c_X6_fails l P hA hn w 1 hq31) ok_X6_fails ml_X6_77 ⟨Nat.le_of_ble_eq_true rfl, Nat.le_of_ble_eq_true rfl⟩ rfl hl.1 rfl (Nat.le_of_ble_eq_true rfl) dX6_boardOf_134 ⟨Nat.le_of_ble_eq_true rfl, Nat.le_of_ble_eq_true rfl⟩) (fun H locs ho32 hP => ?_)
  obtain rfl := Option.some.inj h
  exact ve_i (v := q31.1) S hF hP hr hk rfl dX6_boardOf_137
set_option maxRecDepth 100000 in
set_option maxHeartbeats 4000000 in
theorem c_X6_home (l : Launch) (P : Pl) (hA : Adr P) (hn : 36 ≤ P.2.2.2.1) (w : Wo) {r : Int32 × Wo} (h : F_X6_home w = some r) : CtI l P yX6_home cX6_home 1 (some .int) 3 [.ref (P.2.1 26)] w r.1 r.2 := by
  have hlt : ∀ h, h < 36 → h < P.2.2.2.1 := fun h q => Nat.lt_of_lt_of_le q hn
  refine vs_met hA (by decide +kernel) (Nat.le_of_ble_eq_true rfl) (fun p e s m args below meth c ls S hF hP hl hr hk => ?_)
  have hx := S.1
  have hb := S.2.1
  replace hl : lv_has ls 1 [(0, .ref (P.2.1 26))] := hl
  unfold F_X6_home at h
  refine lv_aload_n hx hb dX6_home_0 rfl (lv_at hl 0 rfl) ?_
  refine lv_aload_n hx hb dX6_home_1 rfl (lv_at hl 0 rfl) ?_
  obtain ⟨q1, hq1, h⟩ := ob h
  refine vu_i hP (vu_V S hF hP (h := 26) (hlt _ (by decide)) rfl (by decide) rfl (c_X6_homes l P hA hn w hq1) ok_X6_homes ml_X6_134 ⟨Nat.le_of_ble_eq_true rfl, Nat.le_of_ble_eq_true rfl⟩ rfl hl.1 rfl (Nat.le_of_ble_eq_true rfl) dX6_home_2 ⟨Nat.le_of_ble_eq_true rfl, Nat.le_of_ble_eq_true rfl⟩) (fun H locs ho2 hP => ?_)
  obtain ⟨q3, hq3, h⟩ := ob h
  refine vu_i hP (vu_V S hF hP (h := 26) (hlt _ (by decide)) rfl (by decide) rfl (c_X6_done l P hA hn q1.2 q1.1 hq3) ok_X6_done ml_X6_81 ⟨Nat.le_of_ble_eq_true rfl, Nat.le_of_ble_eq_true rfl⟩ rfl hl.1 rfl (Nat.le_of_ble_eq_true rfl) dX6_home_5 ⟨Nat.le_of_ble_eq_true rfl, Nat.le_of_ble_eq_true rfl⟩) (fun H locs ho4 hP => ?_)
  obtain rfl := Option.some.inj h
  exact ve_i (v := q3.1) S hF hP hr hk rfl dX6_home_8
set_option maxRecDepth 100000 in
set_option maxHeartbeats 4000000 in
theorem c_X6_homeBehind (l : Launch) (P : Pl) (hA : Adr P) (hn : 36 ≤ P.2.2.2.1) (w : Wo) (x1 : Int32) {r : Int32 × Wo} (h : F_X6_homeBehind w x1 = some r) : CtI l P yX6_homeBehind cX6_homeBehind 2 (some .int) 2 [.ref (P.2.1 26), .int x1] w r.1 r.2 := by
  have hlt : ∀ h, h < 36 → h < P.2.2.2.1 := fun h q => Nat.lt_of_lt_of_le q hn
  refine vs_met hA (by decide +kernel) (Nat.le_of_ble_eq_true rfl) (fun p e s m args below meth c ls S hF hP hl hr hk => ?_)
  have hx := S.1
  have hb := S.2.1
  replace hl : lv_has ls 2 [(0, .ref (P.2.1 26)), (1, .int x1)] := hl
  unfold F_X6_homeBehind at h
  refine lv_aload_n hx hb dX6_homeBehind_0 rfl (lv_at hl 0 rfl) ?_
  obtain ⟨q1, hq1, h⟩ := ob h
  refine vu_v hP (vu_V S hF hP (h := 26) (hlt _ (by decide)) rfl (by decide) rfl (c_X6_tries l P hA hn w hq1) ok_X6_tries ml_X6_121 ⟨Nat.le_of_ble_eq_true rfl, Nat.le_of_ble_eq_true rfl⟩ rfl hl.1 rfl (Nat.le_of_ble_eq_true rfl) dX6_homeBehind_1 ⟨Nat.le_of_ble_eq_true rfl, Nat.le_of_ble_eq_true rfl⟩) (fun H locs hP => ?_)
  refine lv_aload_n hx hb dX6_homeBehind_4 rfl (lv_at hl 0 rfl) ?_
  refine lv_iload_n hx hb dX6_homeBehind_5 rfl (lv_at hl 1 rfl) ?_
  obtain ⟨q2, hq2, h⟩ := ob h
  refine vu_v hP (vu_V S hF hP (h := 26) (hlt _ (by decide)) rfl (by decide) rfl (c_X6_turnsTried l P hA hn q1 x1 hq2) ok_X6_turnsTried ml_X6_127 ⟨Nat.le_of_ble_eq_true rfl, Nat.le_of_ble_eq_true rfl⟩ rfl hl.1 rfl (Nat.le_of_ble_eq_true rfl) dX6_homeBehind_6 ⟨Nat.le_of_ble_eq_true rfl, Nat.le_of_ble_eq_true rfl⟩) (fun H locs hP => ?_)
  refine lv_aload_n hx hb dX6_homeBehind_9 rfl (lv_at hl 0 rfl) ?_
  obtain ⟨q3, hq3, h⟩ := ob h
  refine vu_i hP (vu_V S hF hP (h := 26) (hlt _ (by decide)) rfl (by decide) rfl (c_X6_homeTried l P hA hn q2 hq3) ok_X6_homeTried ml_X6_124 ⟨Nat.le_of_ble_eq_true rfl, Nat.le_of_ble_eq_true rfl⟩ rfl hl.1 rfl (Nat.le_of_ble_eq_true rfl) dX6_homeBehind_10 ⟨Nat.le_of_ble_eq_true rfl, Nat.le_of_ble_eq_true rfl⟩) (fun H locs ho4 hP => ?_)
  obtain rfl := Option.some.inj h
  exact ve_i (v := q3) S hF hP hr hk rfl dX6_homeBehind_13
set_option maxRecDepth 100000 in
set_option maxHeartbeats 4000000 in
theorem c_X6_would (l : Launch) (P : Pl) (hA : Adr P) (hn : 36 ≤ P.2.2.2.1) (w : Wo) (x1 : Int32) {r : Int32 × Wo} (h : F_X6_would w x1 = some r) : CtI l P yX6_would cX6_would 2 (some .int) 3 [.ref (P.2.1 26), .int x1] w r.1 r.2 := by
  have hlt : ∀ h, h < 36 → h < P.2.2.2.1 := fun h q => Nat.lt_of_lt_of_le q hn
  refine vs_met hA (by decide +kernel) (Nat.le_of_ble_eq_true rfl) (fun p e s m args below meth c ls S hF hP hl hr hk => ?_)
  have hx := S.1
  have hb := S.2.1
  replace hl : lv_has ls 2 [(0, .ref (P.2.1 26)), (1, .int x1)] := hl
  unfold F_X6_would at h
  refine lv_aload_n hx hb dX6_would_0 rfl (lv_at hl 0 rfl) ?_
  refine lv_iload_n hx hb dX6_would_1 rfl (lv_at hl 1 rfl) ?_
  obtain ⟨q1, hq1, h⟩ := ob h
  refine vu_i hP (vu_V S hF hP (h := 26) (hlt _ (by decide)) rfl (by decide) rfl (c_X6_isTurn l P hA hn w x1 hq1) ok_X6_isTurn ml_X6_140 ⟨Nat.le_of_ble_eq_true rfl, Nat.le_of_ble_eq_true rfl⟩ rfl hl.1 rfl (Nat.le_of_ble_eq_true rfl) dX6_would_2 ⟨Nat.le_of_ble_eq_true rfl, Nat.le_of_ble_eq_true rfl⟩) (fun H locs ho2 hP => ?_)
  refine lv_if_eq (tgt := 20) hx hb dX6_would_5 (by decide) (fun c9 => ?_) (fun c9 => ?_)
  · rw [if_pos c9] at h
    refine lv_aload_n hx hb dX6_would_20 rfl (lv_at hl 0 rfl) ?_
    refine lv_iconst (v := 1) hx hb dX6_would_21 (by decide) ?_
    obtain ⟨q3, hq3, h⟩ := ob h
    refine vu_i hP (vu_V S hF hP (h := 26) (hlt _ (by decide)) rfl (by decide) rfl (c_X6_fails l P hA hn w 1 hq3) ok_X6_fails ml_X6_77 ⟨Nat.le_of_ble_eq_true rfl, Nat.le_of_ble_eq_true rfl⟩ rfl hl.1 rfl (Nat.le_of_ble_eq_true rfl) dX6_would_22 ⟨Nat.le_of_ble_eq_true rfl, Nat.le_of_ble_eq_true rfl⟩) (fun H locs ho4 hP => ?_)
    obtain rfl := Option.some.inj h
    exact ve_i (v := q3.1) S hF hP hr hk rfl dX6_would_25
  · rw [if_neg c9] at h
    refine lv_aload_n hx hb dX6_would_8 rfl (lv_at hl 0 rfl) ?_
    refine lv_aload_n hx hb dX6_would_9 rfl (lv_at hl 0 rfl) ?_
    refine lv_iload_n hx hb dX6_would_10 rfl (lv_at hl 1 rfl) ?_
    obtain ⟨q5, hq5, h⟩ := ob h
    refine vu_i hP (vu_V S hF hP (h := 26) (hlt _ (by decide)) rfl (by decide) rfl (c_X6_homeBehind l P hA hn w x1 hq5) ok_X6_homeBehind ml_X6_196 ⟨Nat.le_of_ble_eq_true rfl, Nat.le_of_ble_eq_true rfl⟩ rfl hl.1 rfl (Nat.le_of_ble_eq_true rfl) dX6_would_11 ⟨Nat.le_of_ble_eq_true rfl, Nat.le_of_ble_eq_true rfl⟩) (fun H locs ho6 hP => ?_)
    obtain ⟨q7, hq7, h⟩ := ob h
    refine vu_i hP (vu_V S hF hP (h := 26) (hlt _ (by decide)) rfl (by decide) rfl (c_X6_done l P hA hn q5.2 q5.1 hq7) ok_X6_done ml_X6_81 ⟨Nat.le_of_ble_eq_true rfl, Nat.le_of_ble_eq_true rfl⟩ rfl hl.1 rfl (Nat.le_of_ble_eq_true rfl) dX6_would_14 ⟨Nat.le_of_ble_eq_true rfl, Nat.le_of_ble_eq_true rfl⟩) (fun H locs ho8 hP => ?_)
    refine lv_goto (tgt := 25) hx hb dX6_would_17 (by decide) ?_
    obtain rfl := Option.some.inj h
    exact ve_i (v := q7.1) S hF hP hr hk rfl dX6_would_25
set_option maxRecDepth 100000 in
set_option maxHeartbeats 4000000 in
theorem c_X6_best (l : Launch) (P : Pl) (hA : Adr P) (hn : 36 ≤ P.2.2.2.1) (w : Wo) {r : Int32 × Wo} (h : F_X6_best w = some r) : CtI l P yX6_best cX6_best 5 (some .int) 3 [.ref (P.2.1 26)] w r.1 r.2 := by
  have hlt : ∀ h, h < 36 → h < P.2.2.2.1 := fun h q => Nat.lt_of_lt_of_le q hn
  refine vs_met hA (by decide +kernel) (Nat.le_of_ble_eq_true rfl) (fun p e s m args below meth c ls S hF hP hl hr hk => ?_)
  have hx := S.1
  have hb := S.2.1
  replace hl : lv_has ls 5 [(0, .ref (P.2.1 26))] := hl
  have hB66 : ∀ (w : Wo) (x1 : Int32), B_X6_best_66 w x1 = some r → ∀ (H : Heap) (locs : List Loc) (ls : Array Slot), St P s w H locs → lv_has ls 5 [(0, .ref (P.2.1 26)), (1, .int x1)] → W p l e (rmU 3 0 0) s m args below meth c H locs 0 0 (QI P (some .int) r.1 r.2 below args s) (F0 m 66 ls []) := by
    intro w x1 h H locs ls hP hl
    unfold B_X6_best_66 at h
    refine lv_iload_n hx hb dX6_best_66 rfl (lv_at hl 1 rfl) ?_
    refine lv_iconst (v := (-1)) hx hb dX6_best_67 (by decide) ?_
    refine lv_icmp_ne (tgt := 79) hx hb dX6_best_68 (by decide) (fun c11 => ?_) (fun c11 => ?_)
    · rw [if_neg c11] at h
      refine lv_aload_n hx hb dX6_best_79 rfl (lv_at hl 0 rfl) ?_
      refine lv_iload_n hx hb dX6_best_80 rfl (lv_at hl 1 rfl) ?_
      obtain ⟨q3, hq3, h⟩ := ob h
      refine vu_i hP (vu_V S hF hP (h := 26) (hlt _ (by decide)) rfl (by decide) rfl (c_X6_done l P hA hn w x1 hq3) ok_X6_done ml_X6_81 ⟨Nat.le_of_ble_eq_true rfl, Nat.le_of_ble_eq_true rfl⟩ rfl hl.1 rfl (Nat.le_of_ble_eq_true rfl) dX6_best_81 ⟨Nat.le_of_ble_eq_true rfl, Nat.le_of_ble_eq_true rfl⟩) (fun H locs ho4 hP => ?_)
      obtain rfl := Option.some.inj h
      exact ve_i (v := q3.1) S hF hP hr hk rfl dX6_best_84
    · rw [if_pos c11] at h
      refine lv_aload_n hx hb dX6_best_71 rfl (lv_at hl 0 rfl) ?_
      refine lv_iconst (v := 1) hx hb dX6_best_72 (by decide) ?_
      obtain ⟨q5, hq5, h⟩ := ob h
      refine vu_i hP (vu_V S hF hP (h := 26) (hlt _ (by decide)) rfl (by decide) rfl (c_X6_fails l P hA hn w 1 hq5) ok_X6_fails ml_X6_77 ⟨Nat.le_of_ble_eq_true rfl, Nat.le_of_ble_eq_true rfl⟩ rfl hl.1 rfl (Nat.le_of_ble_eq_true rfl) dX6_best_73 ⟨Nat.le_of_ble_eq_true rfl, Nat.le_of_ble_eq_true rfl⟩) (fun H locs ho6 hP => ?_)
      refine lv_goto (tgt := 84) hx hb dX6_best_76 (by decide) ?_
      obtain rfl := Option.some.inj h
      exact ve_i (v := q5.1) S hF hP hr hk rfl dX6_best_84
  have hL6 : ∀ (n : Nat) (w : Wo) (x1 : Int32) (x2 : Int32) (x3 : Int32), jl4 (B_X6_best_6) n w x1 x2 x3 = some r → ∀ (H : Heap) (locs : List Loc) (ls : Array Slot), St P s w H locs → lv_has ls 5 [(0, .ref (P.2.1 26)), (1, .int x1), (2, .int x2), (3, .int x3)] → W p l e (rmU 3 0 0) s m args below meth c H locs 0 0 (QI P (some .int) r.1 r.2 below args s) (F0 m 6 ls []) := by
    intro n
    induction n with
    | zero =>
      intro w x1 x2 x3 h
      cases h
    | succ n ih6 =>
      intro w x1 x2 x3 h H locs ls hP hl
      replace h : B_X6_best_6 (jl4 (B_X6_best_6) n) w x1 x2 x3 = some r := h
      revert h ih6
      generalize jl4 (B_X6_best_6) n = k6
      intro ih6 h
      have hB59 : ∀ (w : Wo) (x1 : Int32) (x3 : Int32) (t0 : Int32), B_X6_best_59 k6 w x1 x3 t0 = some r → ∀ (H : Heap) (locs : List Loc) (ls : Array Slot), St P s w H locs → lv_has ls 5 [(0, .ref (P.2.1 26)), (1, .int x1), (3, .int x3)] → W p l e (rmU 3 0 0) s m args below meth c H locs 0 0 (QI P (some .int) r.1 r.2 below args s) (F0 m 59 ls [.int t0]) := by
        intro w x1 x3 t0 h H locs ls hP hl
        unfold B_X6_best_59 at h
        refine lv_istore_n (lv' := [(2, .int t0), (0, .ref (P.2.1 26)), (1, .int x1), (3, .int x3)]) hx hb dX6_best_59 rfl hl (by decide) rfl (fun ls hl => ?_)
        refine lv_iinc (v := (x3 + 1)) (lv' := [(3, .int (x3 + 1)), (2, .int t0), (0, .ref (P.2.1 26)), (1, .int x1)]) hx hb dX6_best_60 hl (k := 3) rfl rfl (by decide) rfl (fun ls hl => ?_)
        refine lv_goto (tgt := 6) hx hb dX6_best_63 (by decide) ?_
        exact ih6 _ _ _ _ h _ _ _ hP (lv_sub hl [2, 3, 1, 0] rfl)
      have hB46 : ∀ (w : Wo) (x2 : Int32) (x3 : Int32) (x4 : Int32) (t0 : Int32), B_X6_best_46 k6 w x2 x3 x4 t0 = some r → ∀ (H : Heap) (locs : List Loc) (ls : Array Slot), St P s w H locs → lv_has ls 5 [(0, .ref (P.2.1 26)), (2, .int x2), (3, .int x3), (4, .int x4)] → W p l e (rmU 3 0 0) s m args below meth c H locs 0 0 (QI P (some .int) r.1 r.2 below args s) (F0 m 46 ls [.int t0]) := by
        intro w x2 x3 x4 t0 h H locs ls hP hl
        unfold B_X6_best_46 at h
        refine lv_istore_n (lv' := [(1, .int t0), (0, .ref (P.2.1 26)), (2, .int x2), (3, .int x3), (4, .int x4)]) hx hb dX6_best_46 rfl hl (by decide) rfl (fun ls hl => ?_)
        refine lv_iload hx hb dX6_best_47 (lv_at hl 4 rfl) ?_
        refine lv_iload_n hx hb dX6_best_49 rfl (lv_at hl 2 rfl) ?_
        refine lv_icmp_le (tgt := 58) hx hb dX6_best_50 (by decide) (fun c12 => ?_) (fun c12 => ?_)
        · rw [if_pos c12] at h
          refine lv_iload_n hx hb dX6_best_58 rfl (lv_at hl 2 rfl) ?_
          exact hB59 _ _ _ _ h _ _ _ hP (lv_sub hl [1, 0, 3] rfl)
        · rw [if_neg c12] at h
          refine lv_iload hx hb dX6_best_53 (lv_at hl 4 rfl) ?_
          refine lv_goto (tgt := 59) hx hb dX6_best_55 (by decide) ?_
          exact hB59 _ _ _ _ h _ _ _ hP (lv_sub hl [1, 0, 3] rfl)
      have hB33 : ∀ (w : Wo) (x1 : Int32) (x2 : Int32) (x3 : Int32) (t0 : Int32), B_X6_best_33 k6 w x1 x2 x3 t0 = some r → ∀ (H : Heap) (locs : List Loc) (ls : Array Slot), St P s w H locs → lv_has ls 5 [(0, .ref (P.2.1 26)), (1, .int x1), (2, .int x2), (3, .int x3)] → W p l e (rmU 3 0 0) s m args below meth c H locs 0 0 (QI P (some .int) r.1 r.2 below args s) (F0 m 33 ls [.int t0]) := by
        intro w x1 x2 x3 t0 h H locs ls hP hl
        unfold B_X6_best_33 at h
        refine lv_istore (lv' := [(4, .int t0), (0, .ref (P.2.1 26)), (1, .int x1), (2, .int x2), (3, .int x3)]) hx hb dX6_best_33 hl (by decide) rfl (fun ls hl => ?_)
        refine lv_iload hx hb dX6_best_35 (lv_at hl 0 rfl) ?_
        refine lv_iload_n hx hb dX6_best_37 rfl (lv_at hl 3 rfl) ?_
        refine lv_icmp_le (tgt := 45) hx hb dX6_best_38 (by decide) (fun c13 => ?_) (fun c13 => ?_)
        · rw [if_pos c13] at h
          refine lv_iload_n hx hb dX6_best_45 rfl (lv_at hl 2 rfl) ?_
          exact hB46 _ _ _ _ _ h _ _ _ hP (lv_sub hl [1, 3, 4, 0] rfl)
        · rw [if_neg c13] at h
          refine lv_iload_n hx hb dX6_best_41 rfl (lv_at hl 4 rfl) ?_
          refine lv_goto (tgt := 46) hx hb dX6_best_42 (by decide) ?_
          exact hB46 _ _ _ _ _ h _ _ _ hP (lv_sub hl [1, 3, 4, 0] rfl)
      unfold B_X6_best_6 at h
      refine lv_iload_n hx hb dX6_best_6 rfl (lv_at hl 3 rfl) ?_
      refine lv_iconst (v := 2) hx hb dX6_best_7 (by decide) ?_
      refine lv_aload_n hx hb dX6_best_8 rfl (lv_at hl 0 rfl) ?_
      obtain ⟨q1, hq1, h⟩ := ob h
      refine vu_i hP (vu_V S hF hP (h := 26) (hlt _ (by decide)) rfl (by decide) rfl (c_X6_lines l P hA hn w hq1) ok_X6_lines ml_X6_74 ⟨Nat.le_of_ble_eq_true rfl, Nat.le_of_ble_eq_true rfl⟩ rfl hl.1 rfl (Nat.le_of_ble_eq_true rfl) dX6_best_9 ⟨Nat.le_of_ble_eq_true rfl, Nat.le_of_ble_eq_true rfl⟩) (fun H locs ho2 hP => ?_)
      refine lv_imul hx hb dX6_best_12 ?_
      refine lv_icmp_ge (tgt := 66) hx hb dX6_best_13 (by decide) (fun c14 => ?_) (fun c14 => ?_)
      · rw [if_pos c14] at h
        exact hB66 _ _ h _ _ _ hP (lv_sub hl [0, 1] rfl)
      · rw [if_neg c14] at h
        refine lv_aload_n hx hb dX6_best_16 rfl (lv_at hl 0 rfl) ?_
        refine lv_iload_n hx hb dX6_best_17 rfl (lv_at hl 3 rfl) ?_
        obtain ⟨q7, hq7, h⟩ := ob h
        refine vu_i hP (vu_V S hF hP (h := 26) (hlt _ (by decide)) rfl (by decide) rfl (c_X6_isOpen l P hA hn w x3 hq7) ok_X6_isOpen ml_X6_143 ⟨Nat.le_of_ble_eq_true rfl, Nat.le_of_ble_eq_true rfl⟩ rfl hl.1 rfl (Nat.le_of_ble_eq_true rfl) dX6_best_18 ⟨Nat.le_of_ble_eq_true rfl, Nat.le_of_ble_eq_true rfl⟩) (fun H locs ho8 hP => ?_)
        refine lv_if_eq (tgt := 32) hx hb dX6_best_21 (by decide) (fun c15 => ?_) (fun c15 => ?_)
        · rw [if_pos c15] at h
          refine lv_iconst (v := (-1)) hx hb dX6_best_32 (by decide) ?_
          exact hB33 _ _ _ _ _ h _ _ _ hP (lv_sub hl [0, 1, 2, 3] rfl)
        · rw [if_neg c15] at h
          refine lv_aload_n hx hb dX6_best_24 rfl (lv_at hl 0 rfl) ?_
          refine lv_iload_n hx hb dX6_best_25 rfl (lv_at hl 3 rfl) ?_
          obtain ⟨q9, hq9, h⟩ := ob h
          refine vu_i hP (vu_V S hF hP (h := 26) (hlt _ (by decide)) rfl (by decide) rfl (c_X6_homeBehind l P hA hn w x3 hq9) ok_X6_homeBehind ml_X6_196 ⟨Nat.le_of_ble_eq_true rfl, Nat.le_of_ble_eq_true rfl⟩ rfl hl.1 rfl (Nat.le_of_ble_eq_true rfl) dX6_best_26 ⟨Nat.le_of_ble_eq_true rfl, Nat.le_of_ble_eq_true rfl⟩) (fun H locs ho10 hP => ?_)
          refine lv_goto (tgt := 33) hx hb dX6_best_29 (by decide) ?_
          exact hB33 _ _ _ _ _ h _ _ _ hP (lv_sub hl [0, 1, 2, 3] rfl)
  unfold F_X6_best at h
  refine lv_iconst (v := (-1)) hx hb dX6_best_0 (by decide) ?_
  refine lv_istore_n (lv' := [(1, .int (-1)), (0, .ref (P.2.1 26))]) hx hb dX6_best_1 rfl hl (by decide) rfl (fun ls hl => ?_)
  refine lv_iconst (v := (-1)) hx hb dX6_best_2 (by decide) ?_
  refine lv_istore_n (lv' := [(2, .int (-1)), (1, .int (-1)), (0, .ref (P.2.1 26))]) hx hb dX6_best_3 rfl hl (by decide) rfl (fun ls hl => ?_)
  refine lv_iconst (v := 0) hx hb dX6_best_4 (by decide) ?_
  refine lv_istore_n (lv' := [(3, .int 0), (2, .int (-1)), (1, .int (-1)), (0, .ref (P.2.1 26))]) hx hb dX6_best_5 rfl hl (by decide) rfl (fun ls hl => ?_)
  exact hL6 fu _ _ _ _ h _ _ _ hP (lv_sub hl [3, 2, 1, 0] rfl)
set_option maxRecDepth 100000 in
set_option maxHeartbeats 4000000 in
theorem c_X6_where (l : Launch) (P : Pl) (hA : Adr P) (hn : 36 ≤ P.2.2.2.1) (w : Wo) (x1 : Int32) (x2 : Int32) (x3 : Int32) {r : Int32 × Wo} (h : F_X6_where w x1 x2 x3 = some r) : CtI l P yX6_where cX6_where 6 (some .int) 2 [.ref (P.2.1 26), .int x1, .int x2, .int x3] w r.1 r.2 := by
  have hlt : ∀ h, h < 36 → h < P.2.2.2.1 := fun h q => Nat.lt_of_lt_of_le q hn
  refine vs_met hA (by decide +kernel) (Nat.le_of_ble_eq_true rfl) (fun p e s m args below meth c ls S hF hP hl hr hk => ?_)
  have hx := S.1
  have hb := S.2.1
  replace hl : lv_has ls 6 [(0, .ref (P.2.1 26)), (1, .int x1), (2, .int x2), (3, .int x3)] := hl
  have hB16 : ∀ (w : Wo), B_X6_where_16 w = some r → ∀ (H : Heap) (locs : List Loc) (ls : Array Slot), St P s w H locs → lv_has ls 6 [(0, .ref (P.2.1 26))] → W p l e (rmU 2 0 0) s m args below meth c H locs 0 0 (QI P (some .int) r.1 r.2 below args s) (F0 m 16 ls []) := by
    intro w h H locs ls hP hl
    unfold B_X6_where_16 at h
    refine lv_aload_n hx hb dX6_where_16 rfl (lv_at hl 0 rfl) ?_
    refine lv_iconst (v := 1) hx hb dX6_where_17 (by decide) ?_
    obtain ⟨q3, hq3, h⟩ := ob h
    refine vu_i hP (vu_V S hF hP (h := 26) (hlt _ (by decide)) rfl (by decide) rfl (c_X6_fails l P hA hn w 1 hq3) ok_X6_fails ml_X6_77 ⟨Nat.le_of_ble_eq_true rfl, Nat.le_of_ble_eq_true rfl⟩ rfl hl.1 rfl (Nat.le_of_ble_eq_true rfl) dX6_where_18 ⟨Nat.le_of_ble_eq_true rfl, Nat.le_of_ble_eq_true rfl⟩) (fun H locs ho4 hP => ?_)
    obtain rfl := Option.some.inj h
    exact ve_i (v := q3.1) S hF hP hr hk rfl dX6_where_21
  have hB65 : ∀ (w : Wo) (x4 : Int32), B_X6_where_65 w x4 = some r → ∀ (H : Heap) (locs : List Loc) (ls : Array Slot), St P s w H locs → lv_has ls 6 [(0, .ref (P.2.1 26)), (4, .int x4)] → W p l e (rmU 2 0 0) s m args below meth c H locs 0 0 (QI P (some .int) r.1 r.2 below args s) (F0 m 65 ls []) := by
    intro w x4 h H locs ls hP hl
    unfold B_X6_where_65 at h
    refine lv_aload_n hx hb dX6_where_65 rfl (lv_at hl 0 rfl) ?_
    refine lv_iload hx hb dX6_where_66 (lv_at hl 1 rfl) ?_
    obtain ⟨q8, hq8, h⟩ := ob h
    refine vu_i hP (vu_V S hF hP (h := 26) (hlt _ (by decide)) rfl (by decide) rfl (c_X6_done l P hA hn w x4 hq8) ok_X6_done ml_X6_81 ⟨Nat.le_of_ble_eq_true rfl, Nat.le_of_ble_eq_true rfl⟩ rfl hl.1 rfl (Nat.le_of_ble_eq_true rfl) dX6_where_68 ⟨Nat.le_of_ble_eq_true rfl, Nat.le_of_ble_eq_true rfl⟩) (fun H locs ho9 hP => ?_)
    obtain rfl := Option.some.inj h
    exact ve_i (v := q8.1) S hF hP hr hk rfl dX6_where_71
  have hL44 : ∀ (w : Wo) (x2 : Int32) (x3 : Int32) (n : Nat) (x4 : Int32) (x5 : Int32), jl2 (B_X6_where_44 w x2 x3) n x4 x5 = some r → ∀ (H : Heap) (locs : List Loc) (ls : Array Slot), St P s w H locs → lv_has ls 6 [(0, .ref (P.2.1 26)), (2, .int x2), (3, .int x3), (4, .int x4), (5, .int x5)] → W p l e (rmU 2 0 0) s m args below meth c H locs 0 0 (QI P (some .int) r.1 r.2 below args s) (F0 m 44 ls []) := by
    intro w x2 x3
    intro n
    induction n with
    | zero =>
      intro x4 x5 h
      cases h
    | succ n ih44 =>
      intro x4 x5 h H locs ls hP hl
      replace h : B_X6_where_44 w x2 x3 (jl2 (B_X6_where_44 w x2 x3) n) x4 x5 = some r := h
      revert h ih44
      generalize jl2 (B_X6_where_44 w x2 x3) n = k44
      intro ih44 h
      unfold B_X6_where_44 at h
      refine lv_iload hx hb dX6_where_44 (lv_at hl 4 rfl) ?_
      refine lv_iload_n hx hb dX6_where_46 rfl (lv_at hl 2 rfl) ?_
      refine lv_icmp_ge (tgt := 65) hx hb dX6_where_47 (by decide) (fun c14 => ?_) (fun c14 => ?_)
      · rw [if_pos c14] at h
        exact hB65 _ _ h _ _ _ hP (lv_sub hl [0, 3] rfl)
      · rw [if_neg c14] at h
        refine lv_aload_n hx hb dX6_where_50 rfl (lv_at hl 0 rfl) ?_
        refine lv_iload hx hb dX6_where_51 (lv_at hl 3 rfl) ?_
        refine lv_iload_n hx hb dX6_where_53 rfl (lv_at hl 1 rfl) ?_
        obtain ⟨q10, hq10, h⟩ := ob h
        refine vu_i hP (vu_V S hF hP (h := 26) (hlt _ (by decide)) rfl (by decide) rfl (c_X6_goes l P hA hn w x4 x2 hq10) ok_X6_goes ml_X6_118 ⟨Nat.le_of_ble_eq_true rfl, Nat.le_of_ble_eq_true rfl⟩ rfl hl.1 rfl (Nat.le_of_ble_eq_true rfl) dX6_where_54 ⟨Nat.le_of_ble_eq_true rfl, Nat.le_of_ble_eq_true rfl⟩) (fun H locs ho11 hP => ?_)
        refine lv_istore (lv' := [(4, .int q10), (0, .ref (P.2.1 26)), (2, .int x2), (3, .int x3), (5, .int x5)]) hx hb dX6_where_57 hl (by decide) rfl (fun ls hl => ?_)
        refine lv_iinc (v := (x5 + 1)) (lv' := [(5, .int (x5 + 1)), (4, .int q10), (0, .ref (P.2.1 26)), (2, .int x2), (3, .int x3)]) hx hb dX6_where_59 hl (k := 4) rfl rfl (by decide) rfl (fun ls hl => ?_)
        refine lv_goto (tgt := 44) hx hb dX6_where_62 (by decide) ?_
        exact ih44 _ _ h _ _ _ hP (lv_sub hl [2, 3, 4, 1, 0] rfl)
  unfold F_X6_where at h
  refine lv_aload_n hx hb dX6_where_0 rfl (lv_at hl 0 rfl) ?_
  refine lv_iload_n hx hb dX6_where_1 rfl (lv_at hl 1 rfl) ?_
  obtain ⟨q1, hq1, h⟩ := ob h
  refine vu_i hP (vu_V S hF hP (h := 26) (hlt _ (by decide)) rfl (by decide) rfl (c_X6_isPlace l P hA hn w x1 hq1) ok_X6_isPlace ml_X6_102 ⟨Nat.le_of_ble_eq_true rfl, Nat.le_of_ble_eq_true rfl⟩ rfl hl.1 rfl (Nat.le_of_ble_eq_true rfl) dX6_where_2 ⟨Nat.le_of_ble_eq_true rfl, Nat.le_of_ble_eq_true rfl⟩) (fun H locs ho2 hP => ?_)
  refine lv_if_eq (tgt := 16) hx hb dX6_where_5 (by decide) (fun c15 => ?_) (fun c15 => ?_)
  · rw [if_pos c15] at h
    exact hB16 _ h _ _ _ hP (lv_sub hl [0] rfl)
  · rw [if_neg c15] at h
    refine lv_aload_n hx hb dX6_where_8 rfl (lv_at hl 0 rfl) ?_
    refine lv_iload_n hx hb dX6_where_9 rfl (lv_at hl 2 rfl) ?_
    obtain ⟨q5, hq5, h⟩ := ob h
    refine vu_i hP (vu_V S hF hP (h := 26) (hlt _ (by decide)) rfl (by decide) rfl (c_X6_isTurn l P hA hn w x2 hq5) ok_X6_isTurn ml_X6_140 ⟨Nat.le_of_ble_eq_true rfl, Nat.le_of_ble_eq_true rfl⟩ rfl hl.1 rfl (Nat.le_of_ble_eq_true rfl) dX6_where_10 ⟨Nat.le_of_ble_eq_true rfl, Nat.le_of_ble_eq_true rfl⟩) (fun H locs ho6 hP => ?_)
    refine lv_if_ne (tgt := 22) hx hb dX6_where_13 (by decide) (fun c16 => ?_) (fun c16 => ?_)
    · rw [if_neg c16] at h
      refine lv_iload_n hx hb dX6_where_22 rfl (lv_at hl 3 rfl) ?_
      refine lv_iconst (v := 0) hx hb dX6_where_23 (by decide) ?_
      refine lv_bipush (v := 99) hx hb dX6_where_24 (by decide) ?_
      refine vu_i hP (vu_S S hF hP (c_X6_in l P hA hn w x3 0 99) ok_X6_in ml_X6_70 ⟨Nat.le_of_ble_eq_true rfl, Nat.le_of_ble_eq_true rfl⟩ rfl hl.1 rfl (Nat.le_of_ble_eq_true rfl) dX6_where_26 ⟨Nat.le_of_ble_eq_true rfl, Nat.le_of_ble_eq_true rfl⟩) (fun H locs ho7 hP => ?_)
      refine lv_if_ne (tgt := 38) hx hb dX6_where_29 (by decide) (fun c17 => ?_) (fun c17 => ?_)
      · rw [if_neg c17] at h
        refine lv_iload_n hx hb dX6_where_38 rfl (lv_at hl 1 rfl) ?_
        refine lv_istore (lv' := [(4, .int x1), (0, .ref (P.2.1 26)), (1, .int x1), (2, .int x2), (3, .int x3)]) hx hb dX6_where_39 hl (by decide) rfl (fun ls hl => ?_)
        refine lv_iconst (v := 0) hx hb dX6_where_41 (by decide) ?_
        refine lv_istore (lv' := [(5, .int 0), (4, .int x1), (0, .ref (P.2.1 26)), (1, .int x1), (2, .int x2), (3, .int x3)]) hx hb dX6_where_42 hl (by decide) rfl (fun ls hl => ?_)
        exact hL44 _ _ _ fu _ _ h _ _ _ hP (lv_sub hl [2, 4, 5, 1, 0] rfl)
      · rw [if_pos c17] at h
        refine lv_aload_n hx hb dX6_where_32 rfl (lv_at hl 0 rfl) ?_
        refine lv_iconst (v := 2) hx hb dX6_where_33 (by decide) ?_
        obtain ⟨q12, hq12, h⟩ := ob h
        refine vu_i hP (vu_V S hF hP (h := 26) (hlt _ (by decide)) rfl (by decide) rfl (c_X6_fails l P hA hn w 2 hq12) ok_X6_fails ml_X6_77 ⟨Nat.le_of_ble_eq_true rfl, Nat.le_of_ble_eq_true rfl⟩ rfl hl.1 rfl (Nat.le_of_ble_eq_true rfl) dX6_where_34 ⟨Nat.le_of_ble_eq_true rfl, Nat.le_of_ble_eq_true rfl⟩) (fun H locs ho13 hP => ?_)
        obtain rfl := Option.some.inj h
        exact ve_i (v := q12.1) S hF hP hr hk rfl dX6_where_37
    · rw [if_pos c16] at h
      exact hB16 _ h _ _ _ hP (lv_sub hl [0] rfl)
set_option maxRecDepth 100000 in
set_option maxHeartbeats 4000000 in
theorem c_X6_round (l : Launch) (P : Pl) (hA : Adr P) (hn : 36 ≤ P.2.2.2.1) (w : Wo) (x0 : Int32) (x1 : Int32) (x2 : Int32) : CtI l P yX6_round cX6_round 4 (some .int) 0 [.int x0, .int x1, .int x2] w (F_X6_round x0 x1 x2) w := by
  have hlt : ∀ h, h < 36 → h < P.2.2.2.1 := fun h q => Nat.lt_of_lt_of_le q hn
  obtain ⟨r, h⟩ : ∃ r, F_X6_round x0 x1 x2 = r := ⟨_, rfl⟩
  rw [h]
  refine vs_met hA (by decide +kernel) (Nat.le_of_ble_eq_true rfl) (fun p e s m args below meth c ls S hF hP hl hr hk => ?_)
  have hx := S.1
  have hb := S.2.1
  replace hl : lv_has ls 4 [(0, .int x0), (1, .int x1), (2, .int x2)] := hl
  have hB14 : ∀ (x2 : Int32) (t0 : Int32), B_X6_round_14 x2 t0 = r → ∀ (H : Heap) (locs : List Loc) (ls : Array Slot), St P s w H locs → lv_has ls 4 [(2, .int x2)] → W p l e (rmU 0 0 0) s m args below meth c H locs 0 0 (QI P (some .int) r w below args s) (F0 m 14 ls [.int t0]) := by
    intro x2 t0 h H locs ls hP hl
    unfold B_X6_round_14 at h
    refine lv_istore_n (lv' := [(3, .int t0), (2, .int x2)]) hx hb dX6_round_14 rfl hl (by decide) rfl (fun ls hl => ?_)
    refine lv_iload_n hx hb dX6_round_15 rfl (lv_at hl 0 rfl) ?_
    refine lv_iload_n hx hb dX6_round_16 rfl (lv_at hl 1 rfl) ?_
    refine lv_iload_n hx hb dX6_round_17 rfl (lv_at hl 0 rfl) ?_
    refine lv_isub hx hb dX6_round_18 ?_
    refine lv_icmp_ge (tgt := 26) hx hb dX6_round_19 (by decide) (fun c1 => ?_) (fun c1 => ?_)
    · rw [if_pos c1] at h
      refine lv_iload_n hx hb dX6_round_26 rfl (lv_at hl 1 rfl) ?_
      refine lv_iload_n hx hb dX6_round_27 rfl (lv_at hl 0 rfl) ?_
      refine lv_isub hx hb dX6_round_28 ?_
      subst h
      exact ve_i (v := (x2 - t0)) S hF hP hr hk rfl dX6_round_29
    · rw [if_neg c1] at h
      refine lv_iload_n hx hb dX6_round_22 rfl (lv_at hl 0 rfl) ?_
      refine lv_goto (tgt := 29) hx hb dX6_round_23 (by decide) ?_
      subst h
      exact ve_i (v := t0) S hF hP hr hk rfl dX6_round_29
  unfold F_X6_round at h
  refine lv_iload_n hx hb dX6_round_0 rfl (lv_at hl 0 rfl) ?_
  refine lv_iload_n hx hb dX6_round_1 rfl (lv_at hl 1 rfl) ?_
  refine lv_icmp_ge (tgt := 11) hx hb dX6_round_2 (by decide) (fun c2 => ?_) (fun c2 => ?_)
  · rw [if_pos c2] at h
    refine lv_iload_n hx hb dX6_round_11 rfl (lv_at hl 0 rfl) ?_
    refine lv_iload_n hx hb dX6_round_12 rfl (lv_at hl 1 rfl) ?_
    refine lv_isub hx hb dX6_round_13 ?_
    exact hB14 _ _ h _ _ _ hP (lv_sub hl [2] rfl)
  · rw [if_neg c2] at h
    refine lv_iload_n hx hb dX6_round_5 rfl (lv_at hl 1 rfl) ?_
    refine lv_iload_n hx hb dX6_round_6 rfl (lv_at hl 0 rfl) ?_
    refine lv_isub hx hb dX6_round_7 ?_
    refine lv_goto (tgt := 14) hx hb dX6_round_8 (by decide) ?_
    exact hB14 _ _ h _ _ _ hP (lv_sub hl [2] rfl)
set_option maxRecDepth 100000 in
set_option maxHeartbeats 4000000 in
theorem c_X6_stepsBetween (l : Launch) (P : Pl) (hA : Adr P) (hn : 36 ≤ P.2.2.2.1) (w : Wo) (x1 : Int32) (x2 : Int32) (x3 : Int32) {r : Int32} (h : F_X6_stepsBetween w x1 x2 x3 = some r) : CtI l P yX6_stepsBetween cX6_stepsBetween 4 (some .int) 1 [.ref (P.2.1 26), .int x1, .int x2, .int x3] w r w := by
  have hlt : ∀ h, h < 36 → h < P.2.2.2.1 := fun h q => Nat.lt_of_lt_of_le q hn
  refine vs_met hA (by decide +kernel) (Nat.le_of_ble_eq_true rfl) (fun p e s m args below meth c ls S hF hP hl hr hk => ?_)
  have hx := S.1
  have hb := S.2.1
  replace hl : lv_has ls 4 [(0, .ref (P.2.1 26)), (1, .int x1), (2, .int x2), (3, .int x3)] := hl
  unfold F_X6_stepsBetween at h
  refine lv_iload_n hx hb dX6_stepsBetween_0 rfl (lv_at hl 1 rfl) ?_
  refine lv_iload_n hx hb dX6_stepsBetween_1 rfl (lv_at hl 3 rfl) ?_
  obtain ⟨c3, h⟩ := chk h
  refine lv_idiv hx hb dX6_stepsBetween_2 c3 ?_
  refine lv_iload_n hx hb dX6_stepsBetween_3 rfl (lv_at hl 2 rfl) ?_
  refine lv_iload_n hx hb dX6_stepsBetween_4 rfl (lv_at hl 3 rfl) ?_
  obtain ⟨c4, h⟩ := chk h
  refine lv_idiv hx hb dX6_stepsBetween_5 c4 ?_
  refine lv_aload_n hx hb dX6_stepsBetween_6 rfl (lv_at hl 0 rfl) ?_
  refine vt_getR (r := 27) S hF hP (k := 0) (ci := 6) 26 (hlt _ (by decide)) rfl (by decide) rfl (by decide) rfl rfl (inC_X6 _) (List.mem_cons_of_mem _ fl_X6_7) dX6_stepsBetween_7 ?_
  refine lv_iconst (v := 0) hx hb dX6_stepsBetween_10 (by decide) ?_
  refine vt_ialdK 0 (by decide) S hF hP (hlt _ (by decide)) rfl (by decide) dX6_stepsBetween_11 ?_
  refine vu_i hP (vu_S S hF hP (c_X6_round l P hA hn w (x1 / x3) (x2 / x3) (gI w 27 0)) ok_X6_round ml_X6_199 ⟨Nat.le_of_ble_eq_true rfl, Nat.le_of_ble_eq_true rfl⟩ rfl hl.1 rfl (Nat.le_of_ble_eq_true rfl) dX6_stepsBetween_12 ⟨Nat.le_of_ble_eq_true rfl, Nat.le_of_ble_eq_true rfl⟩) (fun H locs ho1 hP => ?_)
  refine lv_iload_n hx hb dX6_stepsBetween_15 rfl (lv_at hl 1 rfl) ?_
  refine lv_iload_n hx hb dX6_stepsBetween_16 rfl (lv_at hl 3 rfl) ?_
  obtain ⟨c5, h⟩ := chk h
  refine lv_irem hx hb dX6_stepsBetween_17 c5 ?_
  refine lv_iload_n hx hb dX6_stepsBetween_18 rfl (lv_at hl 2 rfl) ?_
  refine lv_iload_n hx hb dX6_stepsBetween_19 rfl (lv_at hl 3 rfl) ?_
  obtain ⟨c6, h⟩ := chk h
  refine lv_irem hx hb dX6_stepsBetween_20 c6 ?_
  refine lv_iload_n hx hb dX6_stepsBetween_21 rfl (lv_at hl 3 rfl) ?_
  refine vu_i hP (vu_S S hF hP (c_X6_round l P hA hn w (jrem x1 x3) (jrem x2 x3) x3) ok_X6_round ml_X6_199 ⟨Nat.le_of_ble_eq_true rfl, Nat.le_of_ble_eq_true rfl⟩ rfl hl.1 rfl (Nat.le_of_ble_eq_true rfl) dX6_stepsBetween_22 ⟨Nat.le_of_ble_eq_true rfl, Nat.le_of_ble_eq_true rfl⟩) (fun H locs ho2 hP => ?_)
  refine lv_iadd hx hb dX6_stepsBetween_25 ?_
  obtain rfl := Option.some.inj h
  exact ve_i (v := ((F_X6_round (x1 / x3) (x2 / x3) (gI w 27 0)) + (F_X6_round (jrem x1 x3) (jrem x2 x3) x3))) S hF hP hr hk rfl dX6_stepsBetween_26
set_option maxRecDepth 100000 in
set_option maxHeartbeats 4000000 in
theorem c_X6_far (l : Launch) (P : Pl) (hA : Adr P) (hn : 36 ≤ P.2.2.2.1) (w : Wo) (x1 : Int32) (x2 : Int32) {r : Int32 × Wo} (h : F_X6_far w x1 x2 = some r) : CtI l P yX6_far cX6_far 3 (some .int) 2 [.ref (P.2.1 26), .int x1, .int x2] w r.1 r.2 := by
  have hlt : ∀ h, h < 36 → h < P.2.2.2.1 := fun h q => Nat.lt_of_lt_of_le q hn
  refine vs_met hA (by decide +kernel) (Nat.le_of_ble_eq_true rfl) (fun p e s m args below meth c ls S hF hP hl hr hk => ?_)
  have hx := S.1
  have hb := S.2.1
  replace hl : lv_has ls 3 [(0, .ref (P.2.1 26)), (1, .int x1), (2, .int x2)] := hl
  have hB35 : ∀ (w : Wo), B_X6_far_35 w = some r → ∀ (H : Heap) (locs : List Loc) (ls : Array Slot), St P s w H locs → lv_has ls 3 [(0, .ref (P.2.1 26))] → W p l e (rmU 2 0 0) s m args below meth c H locs 0 0 (QI P (some .int) r.1 r.2 below args s) (F0 m 35 ls []) := by
    intro w h H locs ls hP hl
    unfold B_X6_far_35 at h
    refine lv_aload_n hx hb dX6_far_35 rfl (lv_at hl 0 rfl) ?_
    refine lv_iconst (v := 1) hx hb dX6_far_36 (by decide) ?_
    obtain ⟨q3, hq3, h⟩ := ob h
    refine vu_i hP (vu_V S hF hP (h := 26) (hlt _ (by decide)) rfl (by decide) rfl (c_X6_fails l P hA hn w 1 hq3) ok_X6_fails ml_X6_77 ⟨Nat.le_of_ble_eq_true rfl, Nat.le_of_ble_eq_true rfl⟩ rfl hl.1 rfl (Nat.le_of_ble_eq_true rfl) dX6_far_37 ⟨Nat.le_of_ble_eq_true rfl, Nat.le_of_ble_eq_true rfl⟩) (fun H locs ho4 hP => ?_)
    obtain rfl := Option.some.inj h
    exact ve_i (v := q3.1) S hF hP hr hk rfl dX6_far_40
  unfold F_X6_far at h
  refine lv_aload_n hx hb dX6_far_0 rfl (lv_at hl 0 rfl) ?_
  refine lv_iload_n hx hb dX6_far_1 rfl (lv_at hl 1 rfl) ?_
  obtain ⟨q1, hq1, h⟩ := ob h
  refine vu_i hP (vu_V S hF hP (h := 26) (hlt _ (by decide)) rfl (by decide) rfl (c_X6_isPlace l P hA hn w x1 hq1) ok_X6_isPlace ml_X6_102 ⟨Nat.le_of_ble_eq_true rfl, Nat.le_of_ble_eq_true rfl⟩ rfl hl.1 rfl (Nat.le_of_ble_eq_true rfl) dX6_far_2 ⟨Nat.le_of_ble_eq_true rfl, Nat.le_of_ble_eq_true rfl⟩) (fun H locs ho2 hP => ?_)
  refine lv_if_eq (tgt := 35) hx hb dX6_far_5 (by decide) (fun c11 => ?_) (fun c11 => ?_)
  · rw [if_pos c11] at h
    exact hB35 _ h _ _ _ hP (lv_sub hl [0] rfl)
  · rw [if_neg c11] at h
    refine lv_aload_n hx hb dX6_far_8 rfl (lv_at hl 0 rfl) ?_
    refine lv_iload_n hx hb dX6_far_9 rfl (lv_at hl 2 rfl) ?_
    obtain ⟨q5, hq5, h⟩ := ob h
    refine vu_i hP (vu_V S hF hP (h := 26) (hlt _ (by decide)) rfl (by decide) rfl (c_X6_isPlace l P hA hn w x2 hq5) ok_X6_isPlace ml_X6_102 ⟨Nat.le_of_ble_eq_true rfl, Nat.le_of_ble_eq_true rfl⟩ rfl hl.1 rfl (Nat.le_of_ble_eq_true rfl) dX6_far_10 ⟨Nat.le_of_ble_eq_true rfl, Nat.le_of_ble_eq_true rfl⟩) (fun H locs ho6 hP => ?_)
    refine lv_if_eq (tgt := 35) hx hb dX6_far_13 (by decide) (fun c12 => ?_) (fun c12 => ?_)
    · rw [if_pos c12] at h
      exact hB35 _ h _ _ _ hP (lv_sub hl [0] rfl)
    · rw [if_neg c12] at h
      refine lv_aload_n hx hb dX6_far_16 rfl (lv_at hl 0 rfl) ?_
      refine lv_aload_n hx hb dX6_far_17 rfl (lv_at hl 0 rfl) ?_
      refine lv_iload_n hx hb dX6_far_18 rfl (lv_at hl 1 rfl) ?_
      refine lv_iload_n hx hb dX6_far_19 rfl (lv_at hl 2 rfl) ?_
      refine lv_aload_n hx hb dX6_far_20 rfl (lv_at hl 0 rfl) ?_
      refine vt_getR (r := 27) S hF hP (k := 0) (ci := 6) 26 (hlt _ (by decide)) rfl (by decide) rfl (by decide) rfl rfl (inC_X6 _) (List.mem_cons_of_mem _ fl_X6_7) dX6_far_21 ?_
      refine lv_iconst (v := 1) hx hb dX6_far_24 (by decide) ?_
      refine vt_ialdK 1 (by decide) S hF hP (hlt _ (by decide)) rfl (by decide) dX6_far_25 ?_
      obtain ⟨q7, hq7, h⟩ := ob h
      refine vu_i hP (vu_V S hF hP (h := 26) (hlt _ (by decide)) rfl (by decide) rfl (c_X6_stepsBetween l P hA hn w x1 x2 (gI w 27 1) hq7) ok_X6_stepsBetween ml_X6_202 ⟨Nat.le_of_ble_eq_true rfl, Nat.le_of_ble_eq_true rfl⟩ rfl hl.1 rfl (Nat.le_of_ble_eq_true rfl) dX6_far_26 ⟨Nat.le_of_ble_eq_true rfl, Nat.le_of_ble_eq_true rfl⟩) (fun H locs ho8 hP => ?_)
      obtain ⟨q9, hq9, h⟩ := ob h
      refine vu_i hP (vu_V S hF hP (h := 26) (hlt _ (by decide)) rfl (by decide) rfl (c_X6_done l P hA hn w q7 hq9) ok_X6_done ml_X6_81 ⟨Nat.le_of_ble_eq_true rfl, Nat.le_of_ble_eq_true rfl⟩ rfl hl.1 rfl (Nat.le_of_ble_eq_true rfl) dX6_far_29 ⟨Nat.le_of_ble_eq_true rfl, Nat.le_of_ble_eq_true rfl⟩) (fun H locs ho10 hP => ?_)
      refine lv_goto (tgt := 40) hx hb dX6_far_32 (by decide) ?_
      obtain rfl := Option.some.inj h
      exact ve_i (v := q9.1) S hF hP hr hk rfl dX6_far_40
set_option maxRecDepth 100000 in
set_option maxHeartbeats 4000000 in
theorem c_X6_lengthOf (l : Launch) (P : Pl) (hA : Adr P) (hn : 36 ≤ P.2.2.2.1) (w : Wo) (x1 : Int32) {r : Int32} (h : F_X6_lengthOf w x1 = some r) : CtI l P yX6_lengthOf cX6_lengthOf 2 (some .int) 0 [.ref (P.2.1 26), .int x1] w r w := by
  have hlt : ∀ h, h < 36 → h < P.2.2.2.1 := fun h q => Nat.lt_of_lt_of_le q hn
  refine vs_met hA (by decide +kernel) (Nat.le_of_ble_eq_true rfl) (fun p e s m args below meth c ls S hF hP hl hr hk => ?_)
  have hx := S.1
  have hb := S.2.1
  replace hl : lv_has ls 2 [(0, .ref (P.2.1 26)), (1, .int x1)] := hl
  unfold F_X6_lengthOf at h
  refine lv_iload_n hx hb dX6_lengthOf_0 rfl (lv_at hl 1 rfl) ?_
  refine lv_aload_n hx hb dX6_lengthOf_1 rfl (lv_at hl 0 rfl) ?_
  refine vt_getR (r := 27) S hF hP (k := 0) (ci := 6) 26 (hlt _ (by decide)) rfl (by decide) rfl (by decide) rfl rfl (inC_X6 _) (List.mem_cons_of_mem _ fl_X6_7) dX6_lengthOf_2 ?_
  refine lv_iconst (v := 0) hx hb dX6_lengthOf_5 (by decide) ?_
  refine vt_ialdK 0 (by decide) S hF hP (hlt _ (by decide)) rfl (by decide) dX6_lengthOf_6 ?_
  refine lv_icmp_ge (tgt := 19) hx hb dX6_lengthOf_7 (by decide) (fun c1 => ?_) (fun c1 => ?_)
  · rw [if_pos c1] at h
    refine lv_aload_n hx hb dX6_lengthOf_19 rfl (lv_at hl 0 rfl) ?_
    refine vt_getR (r := 27) S hF hP (k := 0) (ci := 6) 26 (hlt _ (by decide)) rfl (by decide) rfl (by decide) rfl rfl (inC_X6 _) (List.mem_cons_of_mem _ fl_X6_7) dX6_lengthOf_20 ?_
    refine lv_iconst (v := 0) hx hb dX6_lengthOf_23 (by decide) ?_
    refine vt_ialdK 0 (by decide) S hF hP (hlt _ (by decide)) rfl (by decide) dX6_lengthOf_24 ?_
    obtain rfl := Option.some.inj h
    exact ve_i (v := (gI w 27 0)) S hF hP hr hk rfl dX6_lengthOf_25
  · rw [if_neg c1] at h
    refine lv_aload_n hx hb dX6_lengthOf_10 rfl (lv_at hl 0 rfl) ?_
    refine vt_getR (r := 27) S hF hP (k := 0) (ci := 6) 26 (hlt _ (by decide)) rfl (by decide) rfl (by decide) rfl rfl (inC_X6 _) (List.mem_cons_of_mem _ fl_X6_7) dX6_lengthOf_11 ?_
    refine lv_iconst (v := 1) hx hb dX6_lengthOf_14 (by decide) ?_
    refine vt_ialdK 1 (by decide) S hF hP (hlt _ (by decide)) rfl (by decide) dX6_lengthOf_15 ?_
    refine lv_goto (tgt := 25) hx hb dX6_lengthOf_16 (by decide) ?_
    obtain rfl := Option.some.inj h
    exact ve_i (v := (gI w 27 1)) S hF hP hr hk rfl dX6_lengthOf_25
set_option maxRecDepth 100000 in
set_option maxHeartbeats 4000000 in
theorem c_X6_placeOn (l : Launch) (P : Pl) (hA : Adr P) (hn : 36 ≤ P.2.2.2.1) (w : Wo) (x1 : Int32) (x2 : Int32) {r : Int32} (h : F_X6_placeOn w x1 x2 = some r) : CtI l P yX6_placeOn cX6_placeOn 3 (some .int) 0 [.ref (P.2.1 26), .int x1, .int x2] w r w := by
  have hlt : ∀ h, h < 36 → h < P.2.2.2.1 := fun h q => Nat.lt_of_lt_of_le q hn
  refine vs_met hA (by decide +kernel) (Nat.le_of_ble_eq_true rfl) (fun p e s m args below meth c ls S hF hP hl hr hk => ?_)
  have hx := S.1
  have hb := S.2.1
  replace hl : lv_has ls 3 [(0, .ref (P.2.1 26)), (1, .int x1), (2, .int x2)] := hl
  unfold F_X6_placeOn at h
  refine lv_iload_n hx hb dX6_placeOn_0 rfl (lv_at hl 1 rfl) ?_
  refine lv_aload_n hx hb dX6_placeOn_1 rfl (lv_at hl 0 rfl) ?_
  refine vt_getR (r := 27) S hF hP (k := 0) (ci := 6) 26 (hlt _ (by decide)) rfl (by decide) rfl (by decide) rfl rfl (inC_X6 _) (List.mem_cons_of_mem _ fl_X6_7) dX6_placeOn_2 ?_
  refine lv_iconst (v := 0) hx hb dX6_placeOn_5 (by decide) ?_
  refine vt_ialdK 0 (by decide) S hF hP (hlt _ (by decide)) rfl (by decide) dX6_placeOn_6 ?_
  refine lv_icmp_ge (tgt := 23) hx hb dX6_placeOn_7 (by decide) (fun c1 => ?_) (fun c1 => ?_)
  · rw [if_pos c1] at h
    refine lv_aload_n hx hb dX6_placeOn_23 rfl (lv_at hl 0 rfl) ?_
    refine vt_getR (r := 27) S hF hP (k := 0) (ci := 6) 26 (hlt _ (by decide)) rfl (by decide) rfl (by decide) rfl rfl (inC_X6 _) (List.mem_cons_of_mem _ fl_X6_7) dX6_placeOn_24 ?_
    refine lv_iconst (v := 1) hx hb dX6_placeOn_27 (by decide) ?_
    refine vt_ialdK 1 (by decide) S hF hP (hlt _ (by decide)) rfl (by decide) dX6_placeOn_28 ?_
    refine lv_iload_n hx hb dX6_placeOn_29 rfl (lv_at hl 2 rfl) ?_
    refine lv_imul hx hb dX6_placeOn_30 ?_
    refine lv_iload_n hx hb dX6_placeOn_31 rfl (lv_at hl 1 rfl) ?_
    refine lv_iadd hx hb dX6_placeOn_32 ?_
    refine lv_aload_n hx hb dX6_placeOn_33 rfl (lv_at hl 0 rfl) ?_
    refine vt_getR (r := 27) S hF hP (k := 0) (ci := 6) 26 (hlt _ (by decide)) rfl (by decide) rfl (by decide) rfl rfl (inC_X6 _) (List.mem_cons_of_mem _ fl_X6_7) dX6_placeOn_34 ?_
    refine lv_iconst (v := 0) hx hb dX6_placeOn_37 (by decide) ?_
    refine vt_ialdK 0 (by decide) S hF hP (hlt _ (by decide)) rfl (by decide) dX6_placeOn_38 ?_
    refine lv_isub hx hb dX6_placeOn_39 ?_
    obtain rfl := Option.some.inj h
    exact ve_i (v := ((((gI w 27 1) * x2) + x1) - (gI w 27 0))) S hF hP hr hk rfl dX6_placeOn_40
  · rw [if_neg c1] at h
    refine lv_aload_n hx hb dX6_placeOn_10 rfl (lv_at hl 0 rfl) ?_
    refine vt_getR (r := 27) S hF hP (k := 0) (ci := 6) 26 (hlt _ (by decide)) rfl (by decide) rfl (by decide) rfl rfl (inC_X6 _) (List.mem_cons_of_mem _ fl_X6_7) dX6_placeOn_11 ?_
    refine lv_iconst (v := 1) hx hb dX6_placeOn_14 (by decide) ?_
    refine vt_ialdK 1 (by decide) S hF hP (hlt _ (by decide)) rfl (by decide) dX6_placeOn_15 ?_
    refine lv_iload_n hx hb dX6_placeOn_16 rfl (lv_at hl 1 rfl) ?_
    refine lv_imul hx hb dX6_placeOn_17 ?_
    refine lv_iload_n hx hb dX6_placeOn_18 rfl (lv_at hl 2 rfl) ?_
    refine lv_iadd hx hb dX6_placeOn_19 ?_
    refine lv_goto (tgt := 40) hx hb dX6_placeOn_20 (by decide) ?_
    obtain rfl := Option.some.inj h
    exact ve_i (v := (((gI w 27 1) * x1) + x2)) S hF hP hr hk rfl dX6_placeOn_40
set_option maxRecDepth 100000 in
set_option maxHeartbeats 4000000 in
theorem c_X6_isVowelOn (l : Launch) (P : Pl) (hA : Adr P) (hn : 36 ≤ P.2.2.2.1) (w : Wo) (x1 : Int32) (x2 : Int32) {r : Int32} (h : F_X6_isVowelOn w x1 x2 = some r) : CtI l P yX6_isVowelOn cX6_isVowelOn 3 (some .boolean) 1 [.ref (P.2.1 26), .int x1, .int x2] w r w := by
  have hlt : ∀ h, h < 36 → h < P.2.2.2.1 := fun h q => Nat.lt_of_lt_of_le q hn
  refine vs_met hA (by decide +kernel) (Nat.le_of_ble_eq_true rfl) (fun p e s m args below meth c ls S hF hP hl hr hk => ?_)
  have hx := S.1
  have hb := S.2.1
  replace hl : lv_has ls 3 [(0, .ref (P.2.1 26)), (1, .int x1), (2, .int x2)] := hl
  unfold F_X6_isVowelOn at h
  refine lv_aload_n hx hb dX6_isVowelOn_0 rfl (lv_at hl 0 rfl) ?_
  refine vt_getR (r := 27) S hF hP (k := 0) (ci := 6) 26 (hlt _ (by decide)) rfl (by decide) rfl (by decide) rfl rfl (inC_X6 _) (List.mem_cons_of_mem _ fl_X6_7) dX6_isVowelOn_1 ?_
  refine lv_bipush (v := 14) hx hb dX6_isVowelOn_4 (by decide) ?_
  refine lv_aload_n hx hb dX6_isVowelOn_6 rfl (lv_at hl 0 rfl) ?_
  refine lv_iload_n hx hb dX6_isVowelOn_7 rfl (lv_at hl 1 rfl) ?_
  refine lv_iload_n hx hb dX6_isVowelOn_8 rfl (lv_at hl 2 rfl) ?_
  refine lv_aload_n hx hb dX6_isVowelOn_9 rfl (lv_at hl 0 rfl) ?_
  refine lv_iload_n hx hb dX6_isVowelOn_10 rfl (lv_at hl 1 rfl) ?_
  obtain ⟨q1, hq1, h⟩ := ob h
  refine vu_i hP (vu_V S hF hP (h := 26) (hlt _ (by decide)) rfl (by decide) rfl (c_X6_lengthOf l P hA hn w x1 hq1) ok_X6_lengthOf ml_X6_205 ⟨Nat.le_of_ble_eq_true rfl, Nat.le_of_ble_eq_true rfl⟩ rfl hl.1 rfl (Nat.le_of_ble_eq_true rfl) dX6_isVowelOn_11 ⟨Nat.le_of_ble_eq_true rfl, Nat.le_of_ble_eq_true rfl⟩) (fun H locs ho2 hP => ?_)
  obtain ⟨c6, h⟩ := chk h
  refine lv_irem hx hb dX6_isVowelOn_14 c6 ?_
  obtain ⟨q3, hq3, h⟩ := ob h
  refine vu_i hP (vu_V S hF hP (h := 26) (hlt _ (by decide)) rfl (by decide) rfl (c_X6_placeOn l P hA hn w x1 (jrem x2 q1) hq3) ok_X6_placeOn ml_X6_208 ⟨Nat.le_of_ble_eq_true rfl, Nat.le_of_ble_eq_true rfl⟩ rfl hl.1 rfl (Nat.le_of_ble_eq_true rfl) dX6_isVowelOn_15 ⟨Nat.le_of_ble_eq_true rfl, Nat.le_of_ble_eq_true rfl⟩) (fun H locs ho4 hP => ?_)
  refine lv_iadd hx hb dX6_isVowelOn_18 ?_
  obtain ⟨c7, h⟩ := chk h
  refine vt_iald S hF hP (hlt _ (by decide)) rfl c7 dX6_isVowelOn_19 ?_
  refine vu_i hP (vu_S S hF hP (c_X6_isVowel l P hA hn w (gI w 27 (Int32.toNatClampNeg ((14 : Int32) + q3)))) ok_X6_isVowel ml_X6_211 ⟨Nat.le_of_ble_eq_true rfl, Nat.le_of_ble_eq_true rfl⟩ rfl hl.1 rfl (Nat.le_of_ble_eq_true rfl) dX6_isVowelOn_20 ⟨Nat.le_of_ble_eq_true rfl, Nat.le_of_ble_eq_true rfl⟩) (fun H locs ho5 hP => ?_)
  obtain rfl := Option.some.inj h
  exact ve_i (v := (F_X6_isVowel (gI w 27 (Int32.toNatClampNeg ((14 : Int32) + q3))))) S hF hP hr hk ho5 dX6_isVowelOn_23
set_option maxRecDepth 100000 in
set_option maxHeartbeats 4000000 in
theorem c_X6_vowels (l : Launch) (P : Pl) (hA : Adr P) (hn : 36 ≤ P.2.2.2.1) (w : Wo) (x1 : Int32) {r : Int32} (h : F_X6_vowels w x1 = some r) : CtI l P yX6_vowels cX6_vowels 4 (some .int) 2 [.ref (P.2.1 26), .int x1] w r w := by
  have hlt : ∀ h, h < 36 → h < P.2.2.2.1 := fun h q => Nat.lt_of_lt_of_le q hn
  refine vs_met hA (by decide +kernel) (Nat.le_of_ble_eq_true rfl) (fun p e s m args below meth c ls S hF hP hl hr hk => ?_)
  have hx := S.1
  have hb := S.2.1
  replace hl : lv_has ls 4 [(0, .ref (P.2.1 26)), (1, .int x1)] := hl
  have hL4 : ∀ (x1 : Int32) (n : Nat) (x2 : Int32) (x3 : Int32), jl2 (B_X6_vowels_4 w x1) n x2 x3 = some r → ∀ (H : Heap) (locs : List Loc) (ls : Array Slot), St P s w H locs → lv_has ls 4 [(0, .ref (P.2.1 26)), (1, .int x1), (2, .int x2), (3, .int x3)] → W p l e (rmU 2 0 0) s m args below meth c H locs 0 0 (QI P (some .int) r w below args s) (F0 m 4 ls []) := by
    intro x1
    intro n
    induction n with
    | zero =>
      intro x2 x3 h
      cases h
    | succ n ih4 =>
      intro x2 x3 h H locs ls hP hl
      replace h : B_X6_vowels_4 w x1 (jl2 (B_X6_vowels_4 w x1) n) x2 x3 = some r := h
      revert h ih4
      generalize jl2 (B_X6_vowels_4 w x1) n = k4
      intro ih4 h
      have hB28 : ∀ (x3 : Int32) (t0 : Int32) (t1 : Int32), B_X6_vowels_28 k4 w x1 x3 t0 t1 = some r → ∀ (H : Heap) (locs : List Loc) (ls : Array Slot), St P s w H locs → lv_has ls 4 [(0, .ref (P.2.1 26)), (1, .int x1), (3, .int x3)] → W p l e (rmU 2 0 0) s m args below meth c H locs 0 0 (QI P (some .int) r w below args s) (F0 m 28 ls [.int t0, .int t1]) := by
        intro x3 t0 t1 h H locs ls hP hl
        unfold B_X6_vowels_28 at h
        refine lv_iadd hx hb dX6_vowels_28 ?_
        refine lv_istore_n (lv' := [(2, .int (t1 + t0)), (0, .ref (P.2.1 26)), (1, .int x1), (3, .int x3)]) hx hb dX6_vowels_29 rfl hl (by decide) rfl (fun ls hl => ?_)
        refine lv_iinc (v := (x3 + 1)) (lv' := [(3, .int (x3 + 1)), (2, .int (t1 + t0)), (0, .ref (P.2.1 26)), (1, .int x1)]) hx hb dX6_vowels_30 hl (k := 3) rfl rfl (by decide) rfl (fun ls hl => ?_)
        refine lv_goto (tgt := 4) hx hb dX6_vowels_33 (by decide) ?_
        exact ih4 _ _ h _ _ _ hP (lv_sub hl [2, 3, 1, 0] rfl)
      unfold B_X6_vowels_4 at h
      refine lv_iload_n hx hb dX6_vowels_4 rfl (lv_at hl 3 rfl) ?_
      refine lv_aload_n hx hb dX6_vowels_5 rfl (lv_at hl 0 rfl) ?_
      refine lv_iload_n hx hb dX6_vowels_6 rfl (lv_at hl 1 rfl) ?_
      obtain ⟨q1, hq1, h⟩ := ob h
      refine vu_i hP (vu_V S hF hP (h := 26) (hlt _ (by decide)) rfl (by decide) rfl (c_X6_lengthOf l P hA hn w x1 hq1) ok_X6_lengthOf ml_X6_205 ⟨Nat.le_of_ble_eq_true rfl, Nat.le_of_ble_eq_true rfl⟩ rfl hl.1 rfl (Nat.le_of_ble_eq_true rfl) dX6_vowels_7 ⟨Nat.le_of_ble_eq_true rfl, Nat.le_of_ble_eq_true rfl⟩) (fun H locs ho2 hP => ?_)
      refine lv_icmp_ge (tgt := 36) hx hb dX6_vowels_10 (by decide) (fun c5 => ?_) (fun c5 => ?_)
      · rw [if_pos c5] at h
        refine lv_iload_n hx hb dX6_vowels_36 rfl (lv_at hl 2 rfl) ?_
        obtain rfl := Option.some.inj h
        exact ve_i (v := x2) S hF hP hr hk rfl dX6_vowels_37
      · rw [if_neg c5] at h
        refine lv_iload_n hx hb dX6_vowels_13 rfl (lv_at hl 2 rfl) ?_
        refine lv_aload_n hx hb dX6_vowels_14 rfl (lv_at hl 0 rfl) ?_
        refine lv_iload_n hx hb dX6_vowels_15 rfl (lv_at hl 1 rfl) ?_
        refine lv_iload_n hx hb dX6_vowels_16 rfl (lv_at hl 3 rfl) ?_
        obtain ⟨q3, hq3, h⟩ := ob h
        refine vu_i hP (vu_V S hF hP (h := 26) (hlt _ (by decide)) rfl (by decide) rfl (c_X6_isVowelOn l P hA hn w x1 x3 hq3) ok_X6_isVowelOn ml_X6_214 ⟨Nat.le_of_ble_eq_true rfl, Nat.le_of_ble_eq_true rfl⟩ rfl hl.1 rfl (Nat.le_of_ble_eq_true rfl) dX6_vowels_17 ⟨Nat.le_of_ble_eq_true rfl, Nat.le_of_ble_eq_true rfl⟩) (fun H locs ho4 hP => ?_)
        refine lv_if_eq (tgt := 27) hx hb dX6_vowels_20 (by decide) (fun c6 => ?_) (fun c6 => ?_)
        · rw [if_pos c6] at h
          refine lv_iconst (v := 0) hx hb dX6_vowels_27 (by decide) ?_
          exact hB28 _ _ _ h _ _ _ hP (lv_sub hl [0, 1, 3] rfl)
        · rw [if_neg c6] at h
          refine lv_iconst (v := 1) hx hb dX6_vowels_23 (by decide) ?_
          refine lv_goto (tgt := 28) hx hb dX6_vowels_24 (by decide) ?_
          exact hB28 _ _ _ h _ _ _ hP (lv_sub hl [0, 1, 3] rfl)
  unfold F_X6_vowels at h
  refine lv_iconst (v := 0) hx hb dX6_vowels_0 (by decide) ?_
  refine lv_istore_n (lv' := [(2, .int 0), (0, .ref (P.2.1 26)), (1, .int x1)]) hx hb dX6_vowels_1 rfl hl (by decide) rfl (fun ls hl => ?_)
  refine lv_iconst (v := 0) hx hb dX6_vowels_2 (by decide) ?_
  refine lv_istore_n (lv' := [(3, .int 0), (2, .int 0), (0, .ref (P.2.1 26)), (1, .int x1)]) hx hb dX6_vowels_3 rfl hl (by decide) rfl (fun ls hl => ?_)
  exact hL4 _ fu _ _ h _ _ _ hP (lv_sub hl [2, 3, 1, 0] rfl)
set_option maxRecDepth 100000 in
set_option maxHeartbeats 4000000 in
theorem c_X6_isSinging (l : Launch) (P : Pl) (hA : Adr P) (hn : 36 ≤ P.2.2.2.1) (w : Wo) (x1 : Int32) {r : Int32} (h : F_X6_isSinging w x1 = some r) : CtI l P yX6_isSinging cX6_isSinging 4 (some .boolean) 3 [.ref (P.2.1 26), .int x1] w r w := by
  have hlt : ∀ h, h < 36 → h < P.2.2.2.1 := fun h q => Nat.lt_of_lt_of_le q hn
  refine vs_met hA (by decide +kernel) (Nat.le_of_ble_eq_true rfl) (fun p e s m args below meth c ls S hF hP hl hr hk => ?_)
  have hx := S.1
  have hb := S.2.1
  replace hl : lv_has ls 4 [(0, .ref (P.2.1 26)), (1, .int x1)] := hl
  have hL16 : ∀ (x1 : Int32) (n : Nat) (x2 : Int32) (x3 : Int32), jl2 (B_X6_isSinging_16 w x1) n x2 x3 = some r → ∀ (H : Heap) (locs : List Loc) (ls : Array Slot), St P s w H locs → lv_has ls 4 [(0, .ref (P.2.1 26)), (1, .int x1), (2, .int x2), (3, .int x3)] → W p l e (rmU 3 0 0) s m args below meth c H locs 0 0 (QI P (some .boolean) r w below args s) (F0 m 16 ls []) := by
    intro x1
    intro n
    induction n with
    | zero =>
      intro x2 x3 h
      cases h
    | succ n ih16 =>
      intro x2 x3 h H locs ls hP hl
      replace h : B_X6_isSinging_16 w x1 (jl2 (B_X6_isSinging_16 w x1) n) x2 x3 = some r := h
      revert h ih16
      generalize jl2 (B_X6_isSinging_16 w x1) n = k16
      intro ih16 h
      have hB54 : ∀ (x3 : Int32) (t0 : Int32), B_X6_isSinging_54 k16 w x1 x3 t0 = some r → ∀ (H : Heap) (locs : List Loc) (ls : Array Slot), St P s w H locs → lv_has ls 4 [(0, .ref (P.2.1 26)), (1, .int x1), (3, .int x3)] → W p l e (rmU 3 0 0) s m args below meth c H locs 0 0 (QI P (some .boolean) r w below args s) (F0 m 54 ls [.int t0]) := by
        intro x3 t0 h H locs ls hP hl
        unfold B_X6_isSinging_54 at h
        refine lv_istore_n (lv' := [(2, .int t0), (0, .ref (P.2.1 26)), (1, .int x1), (3, .int x3)]) hx hb dX6_isSinging_54 rfl hl (by decide) rfl (fun ls hl => ?_)
        refine lv_iinc (v := (x3 + 1)) (lv' := [(3, .int (x3 + 1)), (2, .int t0), (0, .ref (P.2.1 26)), (1, .int x1)]) hx hb dX6_isSinging_55 hl (k := 3) rfl rfl (by decide) rfl (fun ls hl => ?_)
        refine lv_goto (tgt := 16) hx hb dX6_isSinging_58 (by decide) ?_
        exact ih16 _ _ h _ _ _ hP (lv_sub hl [2, 3, 1, 0] rfl)
      have hB53 : ∀ (x3 : Int32), B_X6_isSinging_53 k16 w x1 x3 = some r → ∀ (H : Heap) (locs : List Loc) (ls : Array Slot), St P s w H locs → lv_has ls 4 [(0, .ref (P.2.1 26)), (1, .int x1), (3, .int x3)] → W p l e (rmU 3 0 0) s m args below meth c H locs 0 0 (QI P (some .boolean) r w below args s) (F0 m 53 ls []) := by
        intro x3 h H locs ls hP hl
        unfold B_X6_isSinging_53 at h
        refine lv_iconst (v := 0) hx hb dX6_isSinging_53 (by decide) ?_
        exact hB54 _ _ h _ _ _ hP (lv_sub hl [0, 1, 2] rfl)
      have hB49 : ∀ (x3 : Int32), B_X6_isSinging_49 k16 w x1 x3 = some r → ∀ (H : Heap) (locs : List Loc) (ls : Array Slot), St P s w H locs → lv_has ls 4 [(0, .ref (P.2.1 26)), (1, .int x1), (3, .int x3)] → W p l e (rmU 3 0 0) s m args below meth c H locs 0 0 (QI P (some .boolean) r w below args s) (F0 m 49 ls []) := by
        intro x3 h H locs ls hP hl
        unfold B_X6_isSinging_49 at h
        refine lv_iconst (v := 1) hx hb dX6_isSinging_49 (by decide) ?_
        refine lv_goto (tgt := 54) hx hb dX6_isSinging_50 (by decide) ?_
        exact hB54 _ _ h _ _ _ hP (lv_sub hl [0, 1, 2] rfl)
      unfold B_X6_isSinging_16 at h
      refine lv_iload_n hx hb dX6_isSinging_16 rfl (lv_at hl 3 rfl) ?_
      refine lv_aload_n hx hb dX6_isSinging_17 rfl (lv_at hl 0 rfl) ?_
      refine lv_iload_n hx hb dX6_isSinging_18 rfl (lv_at hl 1 rfl) ?_
      obtain ⟨q3, hq3, h⟩ := ob h
      refine vu_i hP (vu_V S hF hP (h := 26) (hlt _ (by decide)) rfl (by decide) rfl (c_X6_lengthOf l P hA hn w x1 hq3) ok_X6_lengthOf ml_X6_205 ⟨Nat.le_of_ble_eq_true rfl, Nat.le_of_ble_eq_true rfl⟩ rfl hl.1 rfl (Nat.le_of_ble_eq_true rfl) dX6_isSinging_19 ⟨Nat.le_of_ble_eq_true rfl, Nat.le_of_ble_eq_true rfl⟩) (fun H locs ho4 hP => ?_)
      refine lv_icmp_ge (tgt := 61) hx hb dX6_isSinging_22 (by decide) (fun c9 => ?_) (fun c9 => ?_)
      · rw [if_pos c9] at h
        refine lv_iload_n hx hb dX6_isSinging_61 rfl (lv_at hl 2 rfl) ?_
        obtain ⟨c10, h⟩ := chk h
        obtain rfl := Option.some.inj h
        exact ve_i (v := x2) S hF hP hr hk (nar_z c10) dX6_isSinging_62
      · rw [if_neg c9] at h
        refine lv_iload_n hx hb dX6_isSinging_25 rfl (lv_at hl 2 rfl) ?_
        refine lv_if_eq (tgt := 53) hx hb dX6_isSinging_26 (by decide) (fun c11 => ?_) (fun c11 => ?_)
        · rw [if_pos c11] at h
          exact hB53 _ h _ _ _ hP (lv_sub hl [0, 1, 3] rfl)
        · rw [if_neg c11] at h
          refine lv_aload_n hx hb dX6_isSinging_29 rfl (lv_at hl 0 rfl) ?_
          refine lv_iload_n hx hb dX6_isSinging_30 rfl (lv_at hl 1 rfl) ?_
          refine lv_iload_n hx hb dX6_isSinging_31 rfl (lv_at hl 3 rfl) ?_
          obtain ⟨q5, hq5, h⟩ := ob h
          refine vu_i hP (vu_V S hF hP (h := 26) (hlt _ (by decide)) rfl (by decide) rfl (c_X6_isVowelOn l P hA hn w x1 x3 hq5) ok_X6_isVowelOn ml_X6_214 ⟨Nat.le_of_ble_eq_true rfl, Nat.le_of_ble_eq_true rfl⟩ rfl hl.1 rfl (Nat.le_of_ble_eq_true rfl) dX6_isSinging_32 ⟨Nat.le_of_ble_eq_true rfl, Nat.le_of_ble_eq_true rfl⟩) (fun H locs ho6 hP => ?_)
          refine lv_if_eq (tgt := 49) hx hb dX6_isSinging_35 (by decide) (fun c12 => ?_) (fun c12 => ?_)
          · rw [if_pos c12] at h
            exact hB49 _ h _ _ _ hP (lv_sub hl [0, 1, 3] rfl)
          · rw [if_neg c12] at h
            refine lv_aload_n hx hb dX6_isSinging_38 rfl (lv_at hl 0 rfl) ?_
            refine lv_iload_n hx hb dX6_isSinging_39 rfl (lv_at hl 1 rfl) ?_
            refine lv_iload_n hx hb dX6_isSinging_40 rfl (lv_at hl 3 rfl) ?_
            refine lv_iconst (v := 1) hx hb dX6_isSinging_41 (by decide) ?_
            refine lv_iadd hx hb dX6_isSinging_42 ?_
            obtain ⟨q7, hq7, h⟩ := ob h
            refine vu_i hP (vu_V S hF hP (h := 26) (hlt _ (by decide)) rfl (by decide) rfl (c_X6_isVowelOn l P hA hn w x1 (x3 + (1 : Int32)) hq7) ok_X6_isVowelOn ml_X6_214 ⟨Nat.le_of_ble_eq_true rfl, Nat.le_of_ble_eq_true rfl⟩ rfl hl.1 rfl (Nat.le_of_ble_eq_true rfl) dX6_isSinging_43 ⟨Nat.le_of_ble_eq_true rfl, Nat.le_of_ble_eq_true rfl⟩) (fun H locs ho8 hP => ?_)
            refine lv_if_ne (tgt := 53) hx hb dX6_isSinging_46 (by decide) (fun c13 => ?_) (fun c13 => ?_)
            · rw [if_neg c13] at h
              exact hB53 _ h _ _ _ hP (lv_sub hl [0, 1, 3] rfl)
            · rw [if_pos c13] at h
              exact hB49 _ h _ _ _ hP (lv_sub hl [0, 1, 3] rfl)
  have hB13 : ∀ (x1 : Int32) (t0 : Int32), B_X6_isSinging_13 w x1 t0 = some r → ∀ (H : Heap) (locs : List Loc) (ls : Array Slot), St P s w H locs → lv_has ls 4 [(0, .ref (P.2.1 26)), (1, .int x1)] → W p l e (rmU 3 0 0) s m args below meth c H locs 0 0 (QI P (some .boolean) r w below args s) (F0 m 13 ls [.int t0]) := by
    intro x1 t0 h H locs ls hP hl
    unfold B_X6_isSinging_13 at h
    refine lv_istore_n (lv' := [(2, .int t0), (0, .ref (P.2.1 26)), (1, .int x1)]) hx hb dX6_isSinging_13 rfl hl (by decide) rfl (fun ls hl => ?_)
    refine lv_iconst (v := 0) hx hb dX6_isSinging_14 (by decide) ?_
    refine lv_istore_n (lv' := [(3, .int 0), (2, .int t0), (0, .ref (P.2.1 26)), (1, .int x1)]) hx hb dX6_isSinging_15 rfl hl (by decide) rfl (fun ls hl => ?_)
    exact hL16 _ fu _ _ h _ _ _ hP (lv_sub hl [2, 3, 1, 0] rfl)
  unfold F_X6_isSinging at h
  refine lv_aload_n hx hb dX6_isSinging_0 rfl (lv_at hl 0 rfl) ?_
  refine lv_iload_n hx hb dX6_isSinging_1 rfl (lv_at hl 1 rfl) ?_
  obtain ⟨q1, hq1, h⟩ := ob h
  refine vu_i hP (vu_V S hF hP (h := 26) (hlt _ (by decide)) rfl (by decide) rfl (c_X6_vowels l P hA hn w x1 hq1) ok_X6_vowels ml_X6_217 ⟨Nat.le_of_ble_eq_true rfl, Nat.le_of_ble_eq_true rfl⟩ rfl hl.1 rfl (Nat.le_of_ble_eq_true rfl) dX6_isSinging_2 ⟨Nat.le_of_ble_eq_true rfl, Nat.le_of_ble_eq_true rfl⟩) (fun H locs ho2 hP => ?_)
  refine lv_if_le (tgt := 12) hx hb dX6_isSinging_5 (by decide) (fun c14 => ?_) (fun c14 => ?_)
  · rw [if_pos c14] at h
    refine lv_iconst (v := 0) hx hb dX6_isSinging_12 (by decide) ?_
    exact hB13 _ _ h _ _ _ hP (lv_sub hl [0, 1] rfl)
  · rw [if_neg c14] at h
    refine lv_iconst (v := 1) hx hb dX6_isSinging_8 (by decide) ?_
    refine lv_goto (tgt := 13) hx hb dX6_isSinging_9 (by decide) ?_
    exact hB13 _ _ h _ _ _ hP (lv_sub hl [0, 1] rfl)
