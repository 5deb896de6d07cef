set_option maxRecDepth 100000 in
set_option maxHeartbeats 4000000 in
theorem c_L_board (l : Launch) (P : Pl) (hA : Adr P) (hn : 38 ≤ P.2.2.2.1) (hst : l.stackTraces = false) (x1 : Int32) (x2 : Int32) (w : Wo) {r : Int32 × Wo} (h : F_L_board w x1 x2 = some r) : CtW l P yL_board cL_board 5 [(0, 10, 13, 13)] 9 1 [.ref (P.2.1 0), .int x1, .int x2, .ref (P.2.1 36)] w r.1 r.2 := by
  have hlt : ∀ h, h < 38 → h < P.2.2.2.1 := fun h q => Nat.lt_of_lt_of_le q hn
  refine vs_w hA (by decide +kernel) (Nat.le_of_ble_eq_true rfl) (fun p e s m args below meth c ls S hF hP hl hr hk htab => ?_)
  have hx := S.1
  have hb := S.2.1
  replace hl : lv_has ls 5 [(0, .ref (P.2.1 0)), (1, .int x1), (2, .int x2), (3, .ref (P.2.1 36))] := hl
  unfold F_L_board at h
  obtain ⟨q1, hq1, h⟩ := ob h
  refine lv_aload_n hx hb dL_board_0 rfl (lv_at hl 3 rfl) ?_
  refine lv_iconst (v := 0) hx hb dL_board_1 (by decide) ?_
  refine lv_aload_n hx hb dL_board_2 rfl (lv_at hl 0 rfl) ?_
  refine lv_iload_n hx hb dL_board_3 rfl (lv_at hl 1 rfl) ?_
  refine lv_iload_n hx hb dL_board_4 rfl (lv_at hl 2 rfl) ?_
  refine vu_xi hP (vu_VX S hF hP (h := 0) (hlt _ (by decide)) rfl (by decide) rfl (c_X5_board l P hA (Nat.le_trans (by decide) hn) hst w x1 x2 hq1) ok_X5_board ml_L_7 ⟨Nat.le_of_ble_eq_true rfl, Nat.le_of_ble_eq_true rfl⟩ rfl hl.1 rfl (Nat.le_of_ble_eq_true rfl) dL_board_5 ⟨Nat.le_of_ble_eq_true rfl, Nat.le_of_ble_eq_true rfl⟩) (fun H locs u ce q9 ho hP e1 e2 e3 => ?_) (fun H locs r2 u2 ho hP => ?_)
  · subst ho
    rw [Sum.elim_inl] at h
    by_cases k0 : u.1 = 2
    · rw [if_pos k0] at h
      obtain rfl := Option.some.inj h
      refine ve_catch (j := 2) [] (0, 10, 13, 13) [] S hF htab k0 (fun _ z => absurd z List.not_mem_nil) (by decide) (by decide) cx_L_13 (by decide +kernel) e1 e2 e3 ?_
      refine lv_astore (lv' := [(4, .ref q9), (0, .ref (P.2.1 0)), (1, .int x1), (2, .int x2), (3, .ref (P.2.1 36))]) hx hb dL_board_13 hl (by decide) rfl (fun ls hl => ?_)
      refine lv_iconst (v := 1) hx hb dL_board_15 (by decide) ?_
      exact ve_i (v := 1) S hF hP hr hk rfl dL_board_16
    rw [if_neg k0] at h
    cases h
  · subst ho
    rw [Sum.elim_inr] at h
    dsimp only at h
    refine lv_i2l hx hb dL_board_8 rfl ?_
    refine vt_lastK (n := 1) (h := 36) 0 (by decide) S hF hP (hlt _ (by decide)) rfl (by decide) dL_board_9 (fun H locs hP => ?_)
    refine lv_goto (tgt := 17) hx hb dL_board_10 (by decide) ?_
    refine lv_iconst (v := 0) hx hb dL_board_17 (by decide) ?_
    obtain rfl := Option.some.inj h
    exact ve_i (v := 0) S hF hP hr hk rfl dL_board_18
set_option maxRecDepth 100000 in
set_option maxHeartbeats 4000000 in
theorem c_L_put (l : Launch) (P : Pl) (hA : Adr P) (hn : 38 ≤ P.2.2.2.1) (hst : l.stackTraces = false) (x1 : Int32) (x2 : Int32) (w : Wo) {r : Int32 × Wo} (h : F_L_put w x1 x2 = some r) : CtW l P yL_put cL_put 5 [(0, 10, 13, 19), (0, 10, 17, 13), (0, 10, 21, 21)] 9 1 [.ref (P.2.1 0), .int x1, .int x2, .ref (P.2.1 36)] w r.1 r.2 := by
  have hlt : ∀ h, h < 38 → h < P.2.2.2.1 := fun h q => Nat.lt_of_lt_of_le q hn
  refine vs_w hA (by decide +kernel) (Nat.le_of_ble_eq_true rfl) (fun p e s m args below meth c ls S hF hP hl hr hk htab => ?_)
  have hx := S.1
  have hb := S.2.1
  replace hl : lv_has ls 5 [(0, .ref (P.2.1 0)), (1, .int x1), (2, .int x2), (3, .ref (P.2.1 36))] := hl
  unfold F_L_put at h
  obtain ⟨q1, hq1, h⟩ := ob h
  refine lv_aload_n hx hb dL_put_0 rfl (lv_at hl 3 rfl) ?_
  refine lv_iconst (v := 0) hx hb dL_put_1 (by decide) ?_
  refine lv_aload_n hx hb dL_put_2 rfl (lv_at hl 0 rfl) ?_
  refine lv_iload_n hx hb dL_put_3 rfl (lv_at hl 1 rfl) ?_
  refine lv_iload_n hx hb dL_put_4 rfl (lv_at hl 2 rfl) ?_
  refine vu_xi hP (vu_VX S hF hP (h := 0) (hlt _ (by decide)) rfl (by decide) rfl (c_X5_put l P hA (Nat.le_trans (by decide) hn) hst w x1 x2 hq1) ok_X5_put ml_L_15 ⟨Nat.le_of_ble_eq_true rfl, Nat.le_of_ble_eq_true rfl⟩ rfl hl.1 rfl (Nat.le_of_ble_eq_true rfl) dL_put_5 ⟨Nat.le_of_ble_eq_true rfl, Nat.le_of_ble_eq_true rfl⟩) (fun H locs u ce q9 ho hP e1 e2 e3 => ?_) (fun H locs r2 u2 ho hP => ?_)
  · subst ho
    rw [Sum.elim_inl] at h
    by_cases k0 : u.1 = 1
    · rw [if_pos k0] at h
      obtain rfl := Option.some.inj h
      refine ve_catch (j := 1) [] (0, 10, 13, 19) [(0, 10, 17, 13), (0, 10, 21, 21)] S hF htab k0 (fun _ z => absurd z List.not_mem_nil) (by decide) (by decide) cx_L_19 (by decide +kernel) e1 e2 e3 ?_
      refine lv_astore (lv' := [(4, .ref q9), (0, .ref (P.2.1 0)), (1, .int x1), (2, .int x2), (3, .ref (P.2.1 36))]) hx hb dL_put_13 hl (by decide) rfl (fun ls hl => ?_)
      refine lv_iconst (v := 1) hx hb dL_put_15 (by decide) ?_
      exact ve_i (v := 1) S hF hP hr hk rfl dL_put_16
    rw [if_neg k0] at h
    by_cases k1 : u.1 = 2
    · rw [if_pos k1] at h
      obtain rfl := Option.some.inj h
      refine ve_catch (j := 2) [(0, 10, 13, 19)] (0, 10, 17, 13) [(0, 10, 21, 21)] S hF htab k1 (List.forall_mem_cons.mpr ⟨⟨by decide, _, cx_L_19, by decide +kernel⟩, (fun _ z => absurd z List.not_mem_nil)⟩) (by decide) (by decide) cx_L_13 (by decide +kernel) e1 e2 e3 ?_
      refine lv_astore (lv' := [(4, .ref q9), (0, .ref (P.2.1 0)), (1, .int x1), (2, .int x2), (3, .ref (P.2.1 36))]) hx hb dL_put_17 hl (by decide) rfl (fun ls hl => ?_)
      refine lv_iconst (v := 2) hx hb dL_put_19 (by decide) ?_
      exact ve_i (v := 2) S hF hP hr hk rfl dL_put_20
    rw [if_neg k1] at h
    by_cases k2 : u.1 = 3
    · rw [if_pos k2] at h
      obtain rfl := Option.some.inj h
      refine ve_catch (j := 3) [(0, 10, 13, 19), (0, 10, 17, 13)] (0, 10, 21, 21) [] S hF htab k2 (List.forall_mem_cons.mpr ⟨⟨by decide, _, cx_L_19, by decide +kernel⟩, (List.forall_mem_cons.mpr ⟨⟨by decide, _, cx_L_13, by decide +kernel⟩, (fun _ z => absurd z List.not_mem_nil)⟩)⟩) (by decide) (by decide) cx_L_21 (by decide +kernel) e1 e2 e3 ?_
      refine lv_astore (lv' := [(4, .ref q9), (0, .ref (P.2.1 0)), (1, .int x1), (2, .int x2), (3, .ref (P.2.1 36))]) hx hb dL_put_21 hl (by decide) rfl (fun ls hl => ?_)
      refine lv_iconst (v := 3) hx hb dL_put_23 (by decide) ?_
      exact ve_i (v := 3) S hF hP hr hk rfl dL_put_24
    rw [if_neg k2] at h
    cases h
  · subst ho
    rw [Sum.elim_inr] at h
    dsimp only at h
    refine lv_i2l hx hb dL_put_8 rfl ?_
    refine vt_lastK (n := 1) (h := 36) 0 (by decide) S hF hP (hlt _ (by decide)) rfl (by decide) dL_put_9 (fun H locs hP => ?_)
    refine lv_goto (tgt := 25) hx hb dL_put_10 (by decide) ?_
    refine lv_iconst (v := 0) hx hb dL_put_25 (by decide) ?_
    obtain rfl := Option.some.inj h
    exact ve_i (v := 0) S hF hP hr hk rfl dL_put_26
set_option maxRecDepth 100000 in
set_option maxHeartbeats 4000000 in
theorem c_L_goal (l : Launch) (P : Pl) (hA : Adr P) (hn : 38 ≤ P.2.2.2.1) (hst : l.stackTraces = false) (x1 : Int32) (x2 : Int32) (w : Wo) {r : Int32 × Wo} (h : F_L_goal w x1 x2 = some r) : CtW l P yL_goal cL_goal 5 [(0, 10, 13, 19), (0, 10, 17, 13), (0, 10, 21, 21)] 9 1 [.ref (P.2.1 0), .int x1, .int x2, .ref (P.2.1 36)] w r.1 r.2 := by
  have hlt : ∀ h, h < 38 → h < P.2.2.2.1 := fun h q => Nat.lt_of_lt_of_le q hn
  refine vs_w hA (by decide +kernel) (Nat.le_of_ble_eq_true rfl) (fun p e s m args below meth c ls S hF hP hl hr hk htab => ?_)
  have hx := S.1
  have hb := S.2.1
  replace hl : lv_has ls 5 [(0, .ref (P.2.1 0)), (1, .int x1), (2, .int x2), (3, .ref (P.2.1 36))] := hl
  unfold F_L_goal at h
  obtain ⟨q1, hq1, h⟩ := ob h
  refine lv_aload_n hx hb dL_goal_0 rfl (lv_at hl 3 rfl) ?_
  refine lv_iconst (v := 0) hx hb dL_goal_1 (by decide) ?_
  refine lv_aload_n hx hb dL_goal_2 rfl (lv_at hl 0 rfl) ?_
  refine lv_iload_n hx hb dL_goal_3 rfl (lv_at hl 1 rfl) ?_
  refine lv_iload_n hx hb dL_goal_4 rfl (lv_at hl 2 rfl) ?_
  refine vu_xi hP (vu_VX S hF hP (h := 0) (hlt _ (by decide)) rfl (by decide) rfl (c_X5_goal l P hA (Nat.le_trans (by decide) hn) hst w x1 x2 hq1) ok_X5_goal ml_L_23 ⟨Nat.le_of_ble_eq_true rfl, Nat.le_of_ble_eq_true rfl⟩ rfl hl.1 rfl (Nat.le_of_ble_eq_true rfl) dL_goal_5 ⟨Nat.le_of_ble_eq_true rfl, Nat.le_of_ble_eq_true rfl⟩) (fun H locs u ce q9 ho hP e1 e2 e3 => ?_) (fun H locs r2 u2 ho hP => ?_)
  · subst ho
    rw [Sum.elim_inl] at h
    by_cases k0 : u.1 = 1
    · rw [if_pos k0] at h
      obtain rfl := Option.some.inj h
      refine ve_catch (j := 1) [] (0, 10, 13, 19) [(0, 10, 17, 13), (0, 10, 21, 21)] S hF htab k0 (fun _ z => absurd z List.not_mem_nil) (by decide) (by decide) cx_L_19 (by decide +kernel) e1 e2 e3 ?_
      refine lv_astore (lv' := [(4, .ref q9), (0, .ref (P.2.1 0)), (1, .int x1), (2, .int x2), (3, .ref (P.2.1 36))]) hx hb dL_goal_13 hl (by decide) rfl (fun ls hl => ?_)
      refine lv_iconst (v := 1) hx hb dL_goal_15 (by decide) ?_
      exact ve_i (v := 1) S hF hP hr hk rfl dL_goal_16
    rw [if_neg k0] at h
    by_cases k1 : u.1 = 2
    · rw [if_pos k1] at h
      obtain rfl := Option.some.inj h
      refine ve_catch (j := 2) [(0, 10, 13, 19)] (0, 10, 17, 13) [(0, 10, 21, 21)] S hF htab k1 (List.forall_mem_cons.mpr ⟨⟨by decide, _, cx_L_19, by decide +kernel⟩, (fun _ z => absurd z List.not_mem_nil)⟩) (by decide) (by decide) cx_L_13 (by decide +kernel) e1 e2 e3 ?_
      refine lv_astore (lv' := [(4, .ref q9), (0, .ref (P.2.1 0)), (1, .int x1), (2, .int x2), (3, .ref (P.2.1 36))]) hx hb dL_goal_17 hl (by decide) rfl (fun ls hl => ?_)
      refine lv_iconst (v := 2) hx hb dL_goal_19 (by decide) ?_
      exact ve_i (v := 2) S hF hP hr hk rfl dL_goal_20
    rw [if_neg k1] at h
    by_cases k2 : u.1 = 3
    · rw [if_pos k2] at h
      obtain rfl := Option.some.inj h
      refine ve_catch (j := 3) [(0, 10, 13, 19), (0, 10, 17, 13)] (0, 10, 21, 21) [] S hF htab k2 (List.forall_mem_cons.mpr ⟨⟨by decide, _, cx_L_19, by decide +kernel⟩, (List.forall_mem_cons.mpr ⟨⟨by decide, _, cx_L_13, by decide +kernel⟩, (fun _ z => absurd z List.not_mem_nil)⟩)⟩) (by decide) (by decide) cx_L_21 (by decide +kernel) e1 e2 e3 ?_
      refine lv_astore (lv' := [(4, .ref q9), (0, .ref (P.2.1 0)), (1, .int x1), (2, .int x2), (3, .ref (P.2.1 36))]) hx hb dL_goal_21 hl (by decide) rfl (fun ls hl => ?_)
      refine lv_iconst (v := 3) hx hb dL_goal_23 (by decide) ?_
      exact ve_i (v := 3) S hF hP hr hk rfl dL_goal_24
    rw [if_neg k2] at h
    cases h
  · subst ho
    rw [Sum.elim_inr] at h
    dsimp only at h
    refine lv_i2l hx hb dL_goal_8 rfl ?_
    refine vt_lastK (n := 1) (h := 36) 0 (by decide) S hF hP (hlt _ (by decide)) rfl (by decide) dL_goal_9 (fun H locs hP => ?_)
    refine lv_goto (tgt := 25) hx hb dL_goal_10 (by decide) ?_
    refine lv_iconst (v := 0) hx hb dL_goal_25 (by decide) ?_
    obtain rfl := Option.some.inj h
    exact ve_i (v := 0) S hF hP hr hk rfl dL_goal_26
set_option maxRecDepth 100000 in
set_option maxHeartbeats 4000000 in
theorem c_L_turn (l : Launch) (P : Pl) (hA : Adr P) (hn : 38 ≤ P.2.2.2.1) (hst : l.stackTraces = false) (x1 : Int32) (w : Wo) {r : Int32 × Wo} (h : F_L_turn w x1 = some r) : CtW l P yL_turn cL_turn 4 [(0, 9, 12, 19), (0, 9, 15, 21)] 9 1 [.ref (P.2.1 0), .int x1, .ref (P.2.1 36)] w r.1 r.2 := by
  have hlt : ∀ h, h < 38 → h < P.2.2.2.1 := fun h q => Nat.lt_of_lt_of_le q hn
  refine vs_w hA (by decide +kernel) (Nat.le_of_ble_eq_true rfl) (fun p e s m args below meth c ls S hF hP hl hr hk htab => ?_)
  have hx := S.1
  have hb := S.2.1
  replace hl : lv_has ls 4 [(0, .ref (P.2.1 0)), (1, .int x1), (2, .ref (P.2.1 36))] := hl
  unfold F_L_turn at h
  obtain ⟨q1, hq1, h⟩ := ob h
  refine lv_aload_n hx hb dL_turn_0 rfl (lv_at hl 2 rfl) ?_
  refine lv_iconst (v := 0) hx hb dL_turn_1 (by decide) ?_
  refine lv_aload_n hx hb dL_turn_2 rfl (lv_at hl 0 rfl) ?_
  refine lv_iload_n hx hb dL_turn_3 rfl (lv_at hl 1 rfl) ?_
  refine vu_xi hP (vu_VX S hF hP (h := 0) (hlt _ (by decide)) rfl (by decide) rfl (c_X5_turn l P hA (Nat.le_trans (by decide) hn) hst w x1 hq1) ok_X5_turn ml_L_26 ⟨Nat.le_of_ble_eq_true rfl, Nat.le_of_ble_eq_true rfl⟩ rfl hl.1 rfl (Nat.le_of_ble_eq_true rfl) dL_turn_4 ⟨Nat.le_of_ble_eq_true rfl, Nat.le_of_ble_eq_true rfl⟩) (fun H locs u ce q9 ho hP e1 e2 e3 => ?_) (fun H locs r2 u2 ho hP => ?_)
  · subst ho
    rw [Sum.elim_inl] at h
    by_cases k0 : u.1 = 1
    · rw [if_pos k0] at h
      obtain rfl := Option.some.inj h
      refine ve_catch (j := 1) [] (0, 9, 12, 19) [(0, 9, 15, 21)] S hF htab k0 (fun _ z => absurd z List.not_mem_nil) (by decide) (by decide) cx_L_19 (by decide +kernel) e1 e2 e3 ?_
      refine lv_astore_n (lv' := [(3, .ref q9), (0, .ref (P.2.1 0)), (1, .int x1), (2, .ref (P.2.1 36))]) hx hb dL_turn_12 rfl hl (by decide) rfl (fun ls hl => ?_)
      refine lv_iconst (v := 1) hx hb dL_turn_13 (by decide) ?_
      exact ve_i (v := 1) S hF hP hr hk rfl dL_turn_14
    rw [if_neg k0] at h
    by_cases k1 : u.1 = 3
    · rw [if_pos k1] at h
      obtain rfl := Option.some.inj h
      refine ve_catch (j := 3) [(0, 9, 12, 19)] (0, 9, 15, 21) [] S hF htab k1 (List.forall_mem_cons.mpr ⟨⟨by decide, _, cx_L_19, by decide +kernel⟩, (fun _ z => absurd z List.not_mem_nil)⟩) (by decide) (by decide) cx_L_21 (by decide +kernel) e1 e2 e3 ?_
      refine lv_astore_n (lv' := [(3, .ref q9), (0, .ref (P.2.1 0)), (1, .int x1), (2, .ref (P.2.1 36))]) hx hb dL_turn_15 rfl hl (by decide) rfl (fun ls hl => ?_)
      refine lv_iconst (v := 2) hx hb dL_turn_16 (by decide) ?_
      exact ve_i (v := 2) S hF hP hr hk rfl dL_turn_17
    rw [if_neg k1] at h
    cases h
  · subst ho
    rw [Sum.elim_inr] at h
    dsimp only at h
    refine lv_i2l hx hb dL_turn_7 rfl ?_
    refine vt_lastK (n := 1) (h := 36) 0 (by decide) S hF hP (hlt _ (by decide)) rfl (by decide) dL_turn_8 (fun H locs hP => ?_)
    refine lv_goto (tgt := 18) hx hb dL_turn_9 (by decide) ?_
    refine lv_iconst (v := 0) hx hb dL_turn_18 (by decide) ?_
    obtain rfl := Option.some.inj h
    exact ve_i (v := 0) S hF hP hr hk rfl dL_turn_19
set_option maxRecDepth 100000 in
set_option maxHeartbeats 4000000 in
theorem c_L_swap (l : Launch) (P : Pl) (hA : Adr P) (hn : 38 ≤ P.2.2.2.1) (hst : l.stackTraces = false) (x1 : Int32) (x2 : Int32) (w : Wo) {r : Int32 × Wo} (h : F_L_swap w x1 x2 = some r) : CtW l P yL_swap cL_swap 5 [(0, 10, 13, 19), (0, 10, 17, 21)] 9 1 [.ref (P.2.1 0), .int x1, .int x2, .ref (P.2.1 36)] w r.1 r.2 := by
  have hlt : ∀ h, h < 38 → h < P.2.2.2.1 := fun h q => Nat.lt_of_lt_of_le q hn
  refine vs_w hA (by decide +kernel) (Nat.le_of_ble_eq_true rfl) (fun p e s m args below meth c ls S hF hP hl hr hk htab => ?_)
  have hx := S.1
  have hb := S.2.1
  replace hl : lv_has ls 5 [(0, .ref (P.2.1 0)), (1, .int x1), (2, .int x2), (3, .ref (P.2.1 36))] := hl
  unfold F_L_swap at h
  obtain ⟨q1, hq1, h⟩ := ob h
  refine lv_aload_n hx hb dL_swap_0 rfl (lv_at hl 3 rfl) ?_
  refine lv_iconst (v := 0) hx hb dL_swap_1 (by decide) ?_
  refine lv_aload_n hx hb dL_swap_2 rfl (lv_at hl 0 rfl) ?_
  refine lv_iload_n hx hb dL_swap_3 rfl (lv_at hl 1 rfl) ?_
  refine lv_iload_n hx hb dL_swap_4 rfl (lv_at hl 2 rfl) ?_
  refine vu_xi hP (vu_VX S hF hP (h := 0) (hlt _ (by decide)) rfl (by decide) rfl (c_X5_swap l P hA (Nat.le_trans (by decide) hn) hst w x1 x2 hq1) ok_X5_swap ml_L_30 ⟨Nat.le_of_ble_eq_true rfl, Nat.le_of_ble_eq_true rfl⟩ rfl hl.1 rfl (Nat.le_of_ble_eq_true rfl) dL_swap_5 ⟨Nat.le_of_ble_eq_true rfl, Nat.le_of_ble_eq_true rfl⟩) (fun H locs u ce q9 ho hP e1 e2 e3 => ?_) (fun H locs r2 u2 ho hP => ?_)
  · subst ho
    rw [Sum.elim_inl] at h
    by_cases k0 : u.1 = 1
    · rw [if_pos k0] at h
      obtain rfl := Option.some.inj h
      refine ve_catch (j := 1) [] (0, 10, 13, 19) [(0, 10, 17, 21)] S hF htab k0 (fun _ z => absurd z List.not_mem_nil) (by decide) (by decide) cx_L_19 (by decide +kernel) e1 e2 e3 ?_
      refine lv_astore (lv' := [(4, .ref q9), (0, .ref (P.2.1 0)), (1, .int x1), (2, .int x2), (3, .ref (P.2.1 36))]) hx hb dL_swap_13 hl (by decide) rfl (fun ls hl => ?_)
      refine lv_iconst (v := 1) hx hb dL_swap_15 (by decide) ?_
      exact ve_i (v := 1) S hF hP hr hk rfl dL_swap_16
    rw [if_neg k0] at h
    by_cases k1 : u.1 = 3
    · rw [if_pos k1] at h
      obtain rfl := Option.some.inj h
      refine ve_catch (j := 3) [(0, 10, 13, 19)] (0, 10, 17, 21) [] S hF htab k1 (List.forall_mem_cons.mpr ⟨⟨by decide, _, cx_L_19, by decide +kernel⟩, (fun _ z => absurd z List.not_mem_nil)⟩) (by decide) (by decide) cx_L_21 (by decide +kernel) e1 e2 e3 ?_
      refine lv_astore (lv' := [(4, .ref q9), (0, .ref (P.2.1 0)), (1, .int x1), (2, .int x2), (3, .ref (P.2.1 36))]) hx hb dL_swap_17 hl (by decide) rfl (fun ls hl => ?_)
      refine lv_iconst (v := 2) hx hb dL_swap_19 (by decide) ?_
      exact ve_i (v := 2) S hF hP hr hk rfl dL_swap_20
    rw [if_neg k1] at h
    cases h
  · subst ho
    rw [Sum.elim_inr] at h
    dsimp only at h
    refine lv_i2l hx hb dL_swap_8 rfl ?_
    refine vt_lastK (n := 1) (h := 36) 0 (by decide) S hF hP (hlt _ (by decide)) rfl (by decide) dL_swap_9 (fun H locs hP => ?_)
    refine lv_goto (tgt := 21) hx hb dL_swap_10 (by decide) ?_
    refine lv_iconst (v := 0) hx hb dL_swap_21 (by decide) ?_
    obtain rfl := Option.some.inj h
    exact ve_i (v := 0) S hF hP hr hk rfl dL_swap_22
set_option maxRecDepth 100000 in
set_option maxHeartbeats 4000000 in
theorem c_L_bar (l : Launch) (P : Pl) (hA : Adr P) (hn : 38 ≤ P.2.2.2.1) (hst : l.stackTraces = false) (x1 : Int32) (w : Wo) {r : Int32 × Wo} (h : F_L_bar w x1 = some r) : CtW l P yL_bar cL_bar 4 [(0, 16, 19, 19)] 9 1 [.ref (P.2.1 0), .int x1, .ref (P.2.1 36)] w r.1 r.2 := by
  have hlt : ∀ h, h < 38 → h < P.2.2.2.1 := fun h q => Nat.lt_of_lt_of_le q hn
  refine vs_w hA (by decide +kernel) (Nat.le_of_ble_eq_true rfl) (fun p e s m args below meth c ls S hF hP hl hr hk htab => ?_)
  have hx := S.1
  have hb := S.2.1
  replace hl : lv_has ls 4 [(0, .ref (P.2.1 0)), (1, .int x1), (2, .ref (P.2.1 36))] := hl
  unfold F_L_bar at h
  obtain ⟨q1, hq1, h⟩ := ob h
  refine lv_aload_n hx hb dL_bar_0 rfl (lv_at hl 2 rfl) ?_
  refine lv_iconst (v := 0) hx hb dL_bar_1 (by decide) ?_
  refine lv_aload_n hx hb dL_bar_2 rfl (lv_at hl 0 rfl) ?_
  refine lv_iload_n hx hb dL_bar_3 rfl (lv_at hl 1 rfl) ?_
  refine vu_xi hP (vu_VX S hF hP (h := 0) (hlt _ (by decide)) rfl (by decide) rfl (c_X5_bar l P hA (Nat.le_trans (by decide) hn) hst w x1 hq1) ok_X5_bar ml_L_33 ⟨Nat.le_of_ble_eq_true rfl, Nat.le_of_ble_eq_true rfl⟩ rfl hl.1 rfl (Nat.le_of_ble_eq_true rfl) dL_bar_4 ⟨Nat.le_of_ble_eq_true rfl, Nat.le_of_ble_eq_true rfl⟩) (fun H locs u ce q9 ho hP e1 e2 e3 => ?_) (fun H locs r2 u2 ho hP => ?_)
  · subst ho
    rw [Sum.elim_inl] at h
    by_cases k0 : u.1 = 1
    · rw [if_pos k0] at h
      obtain rfl := Option.some.inj h
      refine ve_catch (j := 1) [] (0, 16, 19, 19) [] S hF htab k0 (fun _ z => absurd z List.not_mem_nil) (by decide) (by decide) cx_L_19 (by decide +kernel) e1 e2 e3 ?_
      refine lv_astore_n (lv' := [(3, .ref q9), (0, .ref (P.2.1 0)), (1, .int x1), (2, .ref (P.2.1 36))]) hx hb dL_bar_19 rfl hl (by decide) rfl (fun ls hl => ?_)
      refine lv_iconst (v := 1) hx hb dL_bar_20 (by decide) ?_
      exact ve_i (v := 1) S hF hP hr hk rfl dL_bar_21
    rw [if_neg k0] at h
    cases h
  · subst ho
    rw [Sum.elim_inr] at h
    dsimp only at h
    refine lv_if_eq (tgt := 14) hx hb dL_bar_7 (by decide) (fun k9 => ?_) (fun k9 => ?_)
    · rw [if_pos k9] at h
      refine lv_lconst (v := 0) hx hb dL_bar_14 (by decide) ?_
      refine vt_lastK (n := 1) (h := 36) 0 (by decide) S hF hP (hlt _ (by decide)) rfl (by decide) dL_bar_15 (fun H locs hP => ?_)
      refine lv_goto (tgt := 22) hx hb dL_bar_16 (by decide) ?_
      refine lv_iconst (v := 0) hx hb dL_bar_22 (by decide) ?_
      obtain rfl := Option.some.inj h
      exact ve_i (v := 0) S hF hP hr hk rfl dL_bar_23
    · rw [if_neg k9] at h
      refine lv_lconst (v := 1) hx hb dL_bar_10 (by decide) ?_
      refine lv_goto (tgt := 15) hx hb dL_bar_11 (by decide) ?_
      refine vt_lastK (n := 1) (h := 36) 0 (by decide) S hF hP (hlt _ (by decide)) rfl (by decide) dL_bar_15 (fun H locs hP => ?_)
      refine lv_goto (tgt := 22) hx hb dL_bar_16 (by decide) ?_
      refine lv_iconst (v := 0) hx hb dL_bar_22 (by decide) ?_
      obtain rfl := Option.some.inj h
      exact ve_i (v := 0) S hF hP hr hk rfl dL_bar_23
set_option maxRecDepth 100000 in
set_option maxHeartbeats 4000000 in
theorem c_L_scramble (l : Launch) (P : Pl) (hA : Adr P) (hn : 38 ≤ P.2.2.2.1) (hst : l.stackTraces = false) (x1 : Int32) (x2 : Int32) (w : Wo) {r : Int32 × Wo} (h : F_L_scramble w x1 x2 = some r) : CtW l P yL_scramble cL_scramble 5 [(0, 10, 13, 13)] 9 1 [.ref (P.2.1 0), .int x1, .int x2, .ref (P.2.1 36)] w r.1 r.2 := by
  have hlt : ∀ h, h < 38 → h < P.2.2.2.1 := fun h q => Nat.lt_of_lt_of_le q hn
  refine vs_w hA (by decide +kernel) (Nat.le_of_ble_eq_true rfl) (fun p e s m args below meth c ls S hF hP hl hr hk htab => ?_)
  have hx := S.1
  have hb := S.2.1
  replace hl : lv_has ls 5 [(0, .ref (P.2.1 0)), (1, .int x1), (2, .int x2), (3, .ref (P.2.1 36))] := hl
  unfold F_L_scramble at h
  obtain ⟨q1, hq1, h⟩ := ob h
  refine lv_aload_n hx hb dL_scramble_0 rfl (lv_at hl 3 rfl) ?_
  refine lv_iconst (v := 0) hx hb dL_scramble_1 (by decide) ?_
  refine lv_aload_n hx hb dL_scramble_2 rfl (lv_at hl 0 rfl) ?_
  refine lv_iload_n hx hb dL_scramble_3 rfl (lv_at hl 1 rfl) ?_
  refine lv_iload_n hx hb dL_scramble_4 rfl (lv_at hl 2 rfl) ?_
  refine vu_xi hP (vu_VX S hF hP (h := 0) (hlt _ (by decide)) rfl (by decide) rfl (c_X5_scramble l P hA (Nat.le_trans (by decide) hn) hst w x1 x2 hq1) ok_X5_scramble ml_L_37 ⟨Nat.le_of_ble_eq_true rfl, Nat.le_of_ble_eq_true rfl⟩ rfl hl.1 rfl (Nat.le_of_ble_eq_true rfl) dL_scramble_5 ⟨Nat.le_of_ble_eq_true rfl, Nat.le_of_ble_eq_true rfl⟩) (fun H locs u ce q9 ho hP e1 e2 e3 => ?_) (fun H locs r2 u2 ho hP => ?_)
  · subst ho
    rw [Sum.elim_inl] at h
    by_cases k0 : u.1 = 2
    · rw [if_pos k0] at h
      obtain rfl := Option.some.inj h
      refine ve_catch (j := 2) [] (0, 10, 13, 13) [] S hF htab k0 (fun _ z => absurd z List.not_mem_nil) (by decide) (by decide) cx_L_13 (by decide +kernel) e1 e2 e3 ?_
      refine lv_astore (lv' := [(4, .ref q9), (0, .ref (P.2.1 0)), (1, .int x1), (2, .int x2), (3, .ref (P.2.1 36))]) hx hb dL_scramble_13 hl (by decide) rfl (fun ls hl => ?_)
      refine lv_iconst (v := 1) hx hb dL_scramble_15 (by decide) ?_
      exact ve_i (v := 1) S hF hP hr hk rfl dL_scramble_16
    rw [if_neg k0] at h
    cases h
  · subst ho
    rw [Sum.elim_inr] at h
    dsimp only at h
    refine lv_i2l hx hb dL_scramble_8 rfl ?_
    refine vt_lastK (n := 1) (h := 36) 0 (by decide) S hF hP (hlt _ (by decide)) rfl (by decide) dL_scramble_9 (fun H locs hP => ?_)
    refine lv_goto (tgt := 17) hx hb dL_scramble_10 (by decide) ?_
    refine lv_iconst (v := 0) hx hb dL_scramble_17 (by decide) ?_
    obtain rfl := Option.some.inj h
    exact ve_i (v := 0) S hF hP hr hk rfl dL_scramble_18
set_option maxRecDepth 100000 in
set_option maxHeartbeats 4000000 in
theorem c_L_step (l : Launch) (P : Pl) (hA : Adr P) (hn : 38 ≤ P.2.2.2.1) (hst : l.stackTraces = false) (w : Wo) {r : Int32 × Wo} (h : F_L_step w = some r) : CtW l P yL_step cL_step 3 [(0, 8, 11, 21), (0, 8, 14, 44)] 8 2 [.ref (P.2.1 0), .ref (P.2.1 36)] w r.1 r.2 := by
  have hlt : ∀ h, h < 38 → h < P.2.2.2.1 := fun h q => Nat.lt_of_lt_of_le q hn
  refine vs_w hA (by decide +kernel) (Nat.le_of_ble_eq_true rfl) (fun p e s m args below meth c ls S hF hP hl hr hk htab => ?_)
  have hx := S.1
  have hb := S.2.1
  replace hl : lv_has ls 3 [(0, .ref (P.2.1 0)), (1, .ref (P.2.1 36))] := hl
  unfold F_L_step at h
  obtain ⟨q1, hq1, h⟩ := ob h
  refine lv_aload_n hx hb dL_step_0 rfl (lv_at hl 1 rfl) ?_
  refine lv_iconst (v := 0) hx hb dL_step_1 (by decide) ?_
  refine lv_aload_n hx hb dL_step_2 rfl (lv_at hl 0 rfl) ?_
  refine vu_xi hP (vu_VX S hF hP (h := 0) (hlt _ (by decide)) rfl (by decide) rfl (c_X5_step l P hA (Nat.le_trans (by decide) hn) hst w hq1) ok_X5_step ml_L_40 ⟨Nat.le_of_ble_eq_true rfl, Nat.le_of_ble_eq_true rfl⟩ rfl hl.1 rfl (Nat.le_of_ble_eq_true rfl) dL_step_3 ⟨Nat.le_of_ble_eq_true rfl, Nat.le_of_ble_eq_true rfl⟩) (fun H locs u ce q9 ho hP e1 e2 e3 => ?_) (fun H locs r2 u2 ho hP => ?_)
  · subst ho
    rw [Sum.elim_inl] at h
    by_cases k0 : u.1 = 3
    · rw [if_pos k0] at h
      obtain rfl := Option.some.inj h
      refine ve_catch (j := 3) [] (0, 8, 11, 21) [(0, 8, 14, 44)] S hF htab k0 (fun _ z => absurd z List.not_mem_nil) (by decide) (by decide) cx_L_21 (by decide +kernel) e1 e2 e3 ?_
      refine lv_astore_n (lv' := [(2, .ref q9), (0, .ref (P.2.1 0)), (1, .ref (P.2.1 36))]) hx hb dL_step_11 rfl hl (by decide) rfl (fun ls hl => ?_)
      refine lv_iconst (v := 1) hx hb dL_step_12 (by decide) ?_
      exact ve_i (v := 1) S hF hP hr hk rfl dL_step_13
    rw [if_neg k0] at h
    by_cases k1 : u.1 = 4
    · rw [if_pos k1] at h
      obtain rfl := Option.some.inj h
      refine ve_catch (j := 4) [(0, 8, 11, 21)] (0, 8, 14, 44) [] S hF htab k1 (List.forall_mem_cons.mpr ⟨⟨by decide, _, cx_L_21, by decide +kernel⟩, (fun _ z => absurd z List.not_mem_nil)⟩) (by decide) (by decide) cx_L_44 (by decide +kernel) e1 e2 e3 ?_
      refine lv_astore_n (lv' := [(2, .ref q9), (0, .ref (P.2.1 0)), (1, .ref (P.2.1 36))]) hx hb dL_step_14 rfl hl (by decide) rfl (fun ls hl => ?_)
      refine lv_iconst (v := 2) hx hb dL_step_15 (by decide) ?_
      exact ve_i (v := 2) S hF hP hr hk rfl dL_step_16
    rw [if_neg k1] at h
    cases h
  · subst ho
    rw [Sum.elim_inr] at h
    dsimp only at h
    refine lv_i2l hx hb dL_step_6 rfl ?_
    refine vt_lastK (n := 1) (h := 36) 0 (by decide) S hF hP (hlt _ (by decide)) rfl (by decide) dL_step_7 (fun H locs hP => ?_)
    refine lv_goto (tgt := 17) hx hb dL_step_8 (by decide) ?_
    refine lv_iconst (v := 0) hx hb dL_step_17 (by decide) ?_
    obtain rfl := Option.some.inj h
    exact ve_i (v := 0) S hF hP hr hk rfl dL_step_18
set_option maxRecDepth 100000 in
set_option maxHeartbeats 4000000 in
theorem c_L_letter (l : Launch) (P : Pl) (hA : Adr P) (hn : 38 ≤ P.2.2.2.1) (hst : l.stackTraces = false) (x1 : Int32) (w : Wo) {r : Int32 × Wo} (h : F_L_letter w x1 = some r) : CtW l P yL_letter cL_letter 4 [(0, 9, 12, 19)] 8 1 [.ref (P.2.1 0), .int x1, .ref (P.2.1 36)] w r.1 r.2 := by
  have hlt : ∀ h, h < 38 → h < P.2.2.2.1 := fun h q => Nat.lt_of_lt_of_le q hn
  refine vs_w hA (by decide +kernel) (Nat.le_of_ble_eq_true rfl) (fun p e s m args below meth c ls S hF hP hl hr hk htab => ?_)
  have hx := S.1
  have hb := S.2.1
  replace hl : lv_has ls 4 [(0, .ref (P.2.1 0)), (1, .int x1), (2, .ref (P.2.1 36))] := hl
  unfold F_L_letter at h
  obtain ⟨q1, hq1, h⟩ := ob h
  refine lv_aload_n hx hb dL_letter_0 rfl (lv_at hl 2 rfl) ?_
  refine lv_iconst (v := 0) hx hb dL_letter_1 (by decide) ?_
  refine lv_aload_n hx hb dL_letter_2 rfl (lv_at hl 0 rfl) ?_
  refine lv_iload_n hx hb dL_letter_3 rfl (lv_at hl 1 rfl) ?_
  refine vu_xi hP (vu_VX S hF hP (h := 0) (hlt _ (by decide)) rfl (by decide) rfl (c_X5_letter l P hA (Nat.le_trans (by decide) hn) hst w x1 hq1) ok_X5_letter ml_L_46 ⟨Nat.le_of_ble_eq_true rfl, Nat.le_of_ble_eq_true rfl⟩ rfl hl.1 rfl (Nat.le_of_ble_eq_true rfl) dL_letter_4 ⟨Nat.le_of_ble_eq_true rfl, Nat.le_of_ble_eq_true rfl⟩) (fun H locs u ce q9 ho hP e1 e2 e3 => ?_) (fun H locs r2 u2 ho hP => ?_)
  · subst ho
    rw [Sum.elim_inl] at h
    by_cases k0 : u.1 = 1
    · rw [if_pos k0] at h
      obtain rfl := Option.some.inj h
      refine ve_catch (j := 1) [] (0, 9, 12, 19) [] S hF htab k0 (fun _ z => absurd z List.not_mem_nil) (by decide) (by decide) cx_L_19 (by decide +kernel) e1 e2 e3 ?_
      refine lv_astore_n (lv' := [(3, .ref q9), (0, .ref (P.2.1 0)), (1, .int x1), (2, .ref (P.2.1 36))]) hx hb dL_letter_12 rfl hl (by decide) rfl (fun ls hl => ?_)
      refine lv_iconst (v := 1) hx hb dL_letter_13 (by decide) ?_
      exact ve_i (v := 1) S hF hP hr hk rfl dL_letter_14
    rw [if_neg k0] at h
    cases h
  · subst ho
    rw [Sum.elim_inr] at h
    dsimp only at h
    refine lv_i2l hx hb dL_letter_7 rfl ?_
    refine vt_lastK (n := 1) (h := 36) 0 (by decide) S hF hP (hlt _ (by decide)) rfl (by decide) dL_letter_8 (fun H locs hP => ?_)
    refine lv_goto (tgt := 15) hx hb dL_letter_9 (by decide) ?_
    refine lv_iconst (v := 0) hx hb dL_letter_15 (by decide) ?_
    obtain rfl := Option.some.inj h
    exact ve_i (v := 0) S hF hP hr hk rfl dL_letter_16
set_option maxRecDepth 100000 in
set_option maxHeartbeats 4000000 in
theorem c_L_sign (l : Launch) (P : Pl) (hA : Adr P) (hn : 38 ≤ P.2.2.2.1) (hst : l.stackTraces = false) (x1 : Int32) (w : Wo) {r : Int32 × Wo} (h : F_L_sign w x1 = some r) : CtW l P yL_sign cL_sign 4 [(0, 9, 12, 19)] 8 1 [.ref (P.2.1 0), .int x1, .ref (P.2.1 36)] w r.1 r.2 := by
  have hlt : ∀ h, h < 38 → h < P.2.2.2.1 := fun h q => Nat.lt_of_lt_of_le q hn
  refine vs_w hA (by decide +kernel) (Nat.le_of_ble_eq_true rfl) (fun p e s m args below meth c ls S hF hP hl hr hk htab => ?_)
  have hx := S.1
  have hb := S.2.1
  replace hl : lv_has ls 4 [(0, .ref (P.2.1 0)), (1, .int x1), (2, .ref (P.2.1 36))] := hl
  unfold F_L_sign at h
  obtain ⟨q1, hq1, h⟩ := ob h
  refine lv_aload_n hx hb dL_sign_0 rfl (lv_at hl 2 rfl) ?_
  refine lv_iconst (v := 0) hx hb dL_sign_1 (by decide) ?_
  refine lv_aload_n hx hb dL_sign_2 rfl (lv_at hl 0 rfl) ?_
  refine lv_iload_n hx hb dL_sign_3 rfl (lv_at hl 1 rfl) ?_
  refine vu_xi hP (vu_VX S hF hP (h := 0) (hlt _ (by decide)) rfl (by decide) rfl (c_X5_sign l P hA (Nat.le_trans (by decide) hn) hst w x1 hq1) ok_X5_sign ml_L_50 ⟨Nat.le_of_ble_eq_true rfl, Nat.le_of_ble_eq_true rfl⟩ rfl hl.1 rfl (Nat.le_of_ble_eq_true rfl) dL_sign_4 ⟨Nat.le_of_ble_eq_true rfl, Nat.le_of_ble_eq_true rfl⟩) (fun H locs u ce q9 ho hP e1 e2 e3 => ?_) (fun H locs r2 u2 ho hP => ?_)
  · subst ho
    rw [Sum.elim_inl] at h
    by_cases k0 : u.1 = 1
    · rw [if_pos k0] at h
      obtain rfl := Option.some.inj h
      refine ve_catch (j := 1) [] (0, 9, 12, 19) [] S hF htab k0 (fun _ z => absurd z List.not_mem_nil) (by decide) (by decide) cx_L_19 (by decide +kernel) e1 e2 e3 ?_
      refine lv_astore_n (lv' := [(3, .ref q9), (0, .ref (P.2.1 0)), (1, .int x1), (2, .ref (P.2.1 36))]) hx hb dL_sign_12 rfl hl (by decide) rfl (fun ls hl => ?_)
      refine lv_iconst (v := 1) hx hb dL_sign_13 (by decide) ?_
      exact ve_i (v := 1) S hF hP hr hk rfl dL_sign_14
    rw [if_neg k0] at h
    cases h
  · subst ho
    rw [Sum.elim_inr] at h
    dsimp only at h
    refine lv_i2l hx hb dL_sign_7 rfl ?_
    refine vt_lastK (n := 1) (h := 36) 0 (by decide) S hF hP (hlt _ (by decide)) rfl (by decide) dL_sign_8 (fun H locs hP => ?_)
    refine lv_goto (tgt := 15) hx hb dL_sign_9 (by decide) ?_
    refine lv_iconst (v := 0) hx hb dL_sign_15 (by decide) ?_
    obtain rfl := Option.some.inj h
    exact ve_i (v := 0) S hF hP hr hk rfl dL_sign_16
set_option maxRecDepth 100000 in
set_option maxHeartbeats 4000000 in
theorem c_L_isBarred (l : Launch) (P : Pl) (hA : Adr P) (hn : 38 ≤ P.2.2.2.1) (hst : l.stackTraces = false) (x1 : Int32) (w : Wo) {r : Int32 × Wo} (h : F_L_isBarred w x1 = some r) : CtW l P yL_isBarred cL_isBarred 4 [(0, 16, 19, 19)] 8 1 [.ref (P.2.1 0), .int x1, .ref (P.2.1 36)] w r.1 r.2 := by
  have hlt : ∀ h, h < 38 → h < P.2.2.2.1 := fun h q => Nat.lt_of_lt_of_le q hn
  refine vs_w hA (by decide +kernel) (Nat.le_of_ble_eq_true rfl) (fun p e s m args below meth c ls S hF hP hl hr hk htab => ?_)
  have hx := S.1
  have hb := S.2.1
  replace hl : lv_has ls 4 [(0, .ref (P.2.1 0)), (1, .int x1), (2, .ref (P.2.1 36))] := hl
  unfold F_L_isBarred at h
  obtain ⟨q1, hq1, h⟩ := ob h
  refine lv_aload_n hx hb dL_isBarred_0 rfl (lv_at hl 2 rfl) ?_
  refine lv_iconst (v := 0) hx hb dL_isBarred_1 (by decide) ?_
  refine lv_aload_n hx hb dL_isBarred_2 rfl (lv_at hl 0 rfl) ?_
  refine lv_iload_n hx hb dL_isBarred_3 rfl (lv_at hl 1 rfl) ?_
  refine vu_xi hP (vu_VX S hF hP (h := 0) (hlt _ (by decide)) rfl (by decide) rfl (c_X5_isBarred l P hA (Nat.le_trans (by decide) hn) hst w x1 hq1) ok_X5_isBarred ml_L_53 ⟨Nat.le_of_ble_eq_true rfl, Nat.le_of_ble_eq_true rfl⟩ rfl hl.1 rfl (Nat.le_of_ble_eq_true rfl) dL_isBarred_4 ⟨Nat.le_of_ble_eq_true rfl, Nat.le_of_ble_eq_true rfl⟩) (fun H locs u ce q9 ho hP e1 e2 e3 => ?_) (fun H locs r2 u2 ho hP => ?_)
  · subst ho
    rw [Sum.elim_inl] at h
    by_cases k0 : u.1 = 1
    · rw [if_pos k0] at h
      obtain rfl := Option.some.inj h
      refine ve_catch (j := 1) [] (0, 16, 19, 19) [] S hF htab k0 (fun _ z => absurd z List.not_mem_nil) (by decide) (by decide) cx_L_19 (by decide +kernel) e1 e2 e3 ?_
      refine lv_astore_n (lv' := [(3, .ref q9), (0, .ref (P.2.1 0)), (1, .int x1), (2, .ref (P.2.1 36))]) hx hb dL_isBarred_19 rfl hl (by decide) rfl (fun ls hl => ?_)
      refine lv_iconst (v := 1) hx hb dL_isBarred_20 (by decide) ?_
      exact ve_i (v := 1) S hF hP hr hk rfl dL_isBarred_21
    rw [if_neg k0] at h
    cases h
  · subst ho
    rw [Sum.elim_inr] at h
    dsimp only at h
    refine lv_if_eq (tgt := 14) hx hb dL_isBarred_7 (by decide) (fun k9 => ?_) (fun k9 => ?_)
    · rw [if_pos k9] at h
      refine lv_lconst (v := 0) hx hb dL_isBarred_14 (by decide) ?_
      refine vt_lastK (n := 1) (h := 36) 0 (by decide) S hF hP (hlt _ (by decide)) rfl (by decide) dL_isBarred_15 (fun H locs hP => ?_)
      refine lv_goto (tgt := 22) hx hb dL_isBarred_16 (by decide) ?_
      refine lv_iconst (v := 0) hx hb dL_isBarred_22 (by decide) ?_
      obtain rfl := Option.some.inj h
      exact ve_i (v := 0) S hF hP hr hk rfl dL_isBarred_23
    · rw [if_neg k9] at h
      refine lv_lconst (v := 1) hx hb dL_isBarred_10 (by decide) ?_
      refine lv_goto (tgt := 15) hx hb dL_isBarred_11 (by decide) ?_
      refine vt_lastK (n := 1) (h := 36) 0 (by decide) S hF hP (hlt _ (by decide)) rfl (by decide) dL_isBarred_15 (fun H locs hP => ?_)
      refine lv_goto (tgt := 22) hx hb dL_isBarred_16 (by decide) ?_
      refine lv_iconst (v := 0) hx hb dL_isBarred_22 (by decide) ?_
      obtain rfl := Option.some.inj h
      exact ve_i (v := 0) S hF hP hr hk rfl dL_isBarred_23
set_option maxRecDepth 100000 in
set_option maxHeartbeats 4000000 in
theorem c_L_boardOf (l : Launch) (P : Pl) (hA : Adr P) (hn : 38 ≤ P.2.2.2.1) (hst : l.stackTraces = false) (x1 : Int32) (w : Wo) {r : Int32 × Wo} (h : F_L_boardOf w x1 = some r) : CtW l P yL_boardOf cL_boardOf 4 [(0, 9, 12, 13)] 7 1 [.ref (P.2.1 0), .int x1, .ref (P.2.1 36)] w r.1 r.2 := by
  have hlt : ∀ h, h < 38 → h < P.2.2.2.1 := fun h q => Nat.lt_of_lt_of_le q hn
  refine vs_w hA (by decide +kernel) (Nat.le_of_ble_eq_true rfl) (fun p e s m args below meth c ls S hF hP hl hr hk htab => ?_)
  have hx := S.1
  have hb := S.2.1
  replace hl : lv_has ls 4 [(0, .ref (P.2.1 0)), (1, .int x1), (2, .ref (P.2.1 36))] := hl
  unfold F_L_boardOf at h
  obtain ⟨q1, hq1, h⟩ := ob h
  refine lv_aload_n hx hb dL_boardOf_0 rfl (lv_at hl 2 rfl) ?_
  refine lv_iconst (v := 0) hx hb dL_boardOf_1 (by decide) ?_
  refine lv_aload_n hx hb dL_boardOf_2 rfl (lv_at hl 0 rfl) ?_
  refine lv_iload_n hx hb dL_boardOf_3 rfl (lv_at hl 1 rfl) ?_
  refine vu_xi hP (vu_VX S hF hP (h := 0) (hlt _ (by decide)) rfl (by decide) rfl (c_X5_boardOf l P hA (Nat.le_trans (by decide) hn) hst w x1 hq1) ok_X5_boardOf ml_L_56 ⟨Nat.le_of_ble_eq_true rfl, Nat.le_of_ble_eq_true rfl⟩ rfl hl.1 rfl (Nat.le_of_ble_eq_true rfl) dL_boardOf_4 ⟨Nat.le_of_ble_eq_true rfl, Nat.le_of_ble_eq_true rfl⟩) (fun H locs u ce q9 ho hP e1 e2 e3 => ?_) (fun H locs r2 u2 ho hP => ?_)
  · subst ho
    rw [Sum.elim_inl] at h
    by_cases k0 : u.1 = 2
    · rw [if_pos k0] at h
      obtain rfl := Option.some.inj h
      refine ve_catch (j := 2) [] (0, 9, 12, 13) [] S hF htab k0 (fun _ z => absurd z List.not_mem_nil) (by decide) (by decide) cx_L_13 (by decide +kernel) e1 e2 e3 ?_
      refine lv_astore_n (lv' := [(3, .ref q9), (0, .ref (P.2.1 0)), (1, .int x1), (2, .ref (P.2.1 36))]) hx hb dL_boardOf_12 rfl hl (by decide) rfl (fun ls hl => ?_)
      refine lv_iconst (v := 1) hx hb dL_boardOf_13 (by decide) ?_
      exact ve_i (v := 1) S hF hP hr hk rfl dL_boardOf_14
    rw [if_neg k0] at h
    cases h
  · subst ho
    rw [Sum.elim_inr] at h
    dsimp only at h
    refine lv_i2l hx hb dL_boardOf_7 rfl ?_
    refine vt_lastK (n := 1) (h := 36) 0 (by decide) S hF hP (hlt _ (by decide)) rfl (by decide) dL_boardOf_8 (fun H locs hP => ?_)
    refine lv_goto (tgt := 15) hx hb dL_boardOf_9 (by decide) ?_
    refine lv_iconst (v := 0) hx hb dL_boardOf_15 (by decide) ?_
    obtain rfl := Option.some.inj h
    exact ve_i (v := 0) S hF hP hr hk rfl dL_boardOf_16
set_option maxRecDepth 100000 in
set_option maxHeartbeats 4000000 in
theorem c_L_away (l : Launch) (P : Pl) (hA : Adr P) (hn : 38 ≤ P.2.2.2.1) (hst : l.stackTraces = false) (x1 : Int32) (w : Wo) {r : Int32 × Wo} (h : F_L_away w x1 = some r) : CtW l P yL_away cL_away 4 [(0, 9, 12, 44)] 16 1 [.ref (P.2.1 0), .int x1, .ref (P.2.1 36)] w r.1 r.2 := by
  have hlt : ∀ h, h < 38 → h < P.2.2.2.1 := fun h q => Nat.lt_of_lt_of_le q hn
  refine vs_w hA (by decide +kernel) (Nat.le_of_ble_eq_true rfl) (fun p e s m args below meth c ls S hF hP hl hr hk htab => ?_)
  have hx := S.1
  have hb := S.2.1
  replace hl : lv_has ls 4 [(0, .ref (P.2.1 0)), (1, .int x1), (2, .ref (P.2.1 36))] := hl
  unfold F_L_away at h
  obtain ⟨q1, hq1, h⟩ := ob h
  refine lv_aload_n hx hb dL_away_0 rfl (lv_at hl 2 rfl) ?_
  refine lv_iconst (v := 0) hx hb dL_away_1 (by decide) ?_
  refine lv_aload_n hx hb dL_away_2 rfl (lv_at hl 0 rfl) ?_
  refine lv_iload_n hx hb dL_away_3 rfl (lv_at hl 1 rfl) ?_
  refine vu_xi hP (vu_VX S hF hP (h := 0) (hlt _ (by decide)) rfl (by decide) rfl (c_X5_away l P hA (Nat.le_trans (by decide) hn) hst w x1 hq1) ok_X5_away ml_L_59 ⟨Nat.le_of_ble_eq_true rfl, Nat.le_of_ble_eq_true rfl⟩ rfl hl.1 rfl (Nat.le_of_ble_eq_true rfl) dL_away_4 ⟨Nat.le_of_ble_eq_true rfl, Nat.le_of_ble_eq_true rfl⟩) (fun H locs u ce q9 ho hP e1 e2 e3 => ?_) (fun H locs r2 u2 ho hP => ?_)
  · subst ho
    rw [Sum.elim_inl] at h
    by_cases k0 : u.1 = 4
    · rw [if_pos k0] at h
      obtain rfl := Option.some.inj h
      refine ve_catch (j := 4) [] (0, 9, 12, 44) [] S hF htab k0 (fun _ z => absurd z List.not_mem_nil) (by decide) (by decide) cx_L_44 (by decide +kernel) e1 e2 e3 ?_
      refine lv_astore_n (lv' := [(3, .ref q9), (0, .ref (P.2.1 0)), (1, .int x1), (2, .ref (P.2.1 36))]) hx hb dL_away_12 rfl hl (by decide) rfl (fun ls hl => ?_)
      refine lv_iconst (v := 1) hx hb dL_away_13 (by decide) ?_
      exact ve_i (v := 1) S hF hP hr hk rfl dL_away_14
    rw [if_neg k0] at h
    cases h
  · subst ho
    rw [Sum.elim_inr] at h
    dsimp only at h
    refine lv_i2l hx hb dL_away_7 rfl ?_
    refine vt_lastK (n := 1) (h := 36) 0 (by decide) S hF hP (hlt _ (by decide)) rfl (by decide) dL_away_8 (fun H locs hP => ?_)
    refine lv_goto (tgt := 15) hx hb dL_away_9 (by decide) ?_
    refine lv_iconst (v := 0) hx hb dL_away_15 (by decide) ?_
    obtain rfl := Option.some.inj h
    exact ve_i (v := 0) S hF hP hr hk rfl dL_away_16
set_option maxRecDepth 100000 in
set_option maxHeartbeats 4000000 in
theorem c_L_firstTurn (l : Launch) (P : Pl) (hA : Adr P) (hn : 38 ≤ P.2.2.2.1) (hst : l.stackTraces = false) (w : Wo) {r : Int32 × Wo} (h : F_L_firstTurn w = some r) : CtW l P yL_firstTurn cL_firstTurn 3 [(0, 8, 11, 44)] 7 1 [.ref (P.2.1 0), .ref (P.2.1 36)] w r.1 r.2 := by
  have hlt : ∀ h, h < 38 → h < P.2.2.2.1 := fun h q => Nat.lt_of_lt_of_le q hn
  refine vs_w hA (by decide +kernel) (Nat.le_of_ble_eq_true rfl) (fun p e s m args below meth c ls S hF hP hl hr hk htab => ?_)
  have hx := S.1
  have hb := S.2.1
  replace hl : lv_has ls 3 [(0, .ref (P.2.1 0)), (1, .ref (P.2.1 36))] := hl
  unfold F_L_firstTurn at h
  obtain ⟨q1, hq1, h⟩ := ob h
  refine lv_aload_n hx hb dL_firstTurn_0 rfl (lv_at hl 1 rfl) ?_
  refine lv_iconst (v := 0) hx hb dL_firstTurn_1 (by decide) ?_
  refine lv_aload_n hx hb dL_firstTurn_2 rfl (lv_at hl 0 rfl) ?_
  refine vu_xi hP (vu_VX S hF hP (h := 0) (hlt _ (by decide)) rfl (by decide) rfl (c_X5_firstTurn l P hA (Nat.le_trans (by decide) hn) hst w hq1) ok_X5_firstTurn ml_L_63 ⟨Nat.le_of_ble_eq_true rfl, Nat.le_of_ble_eq_true rfl⟩ rfl hl.1 rfl (Nat.le_of_ble_eq_true rfl) dL_firstTurn_3 ⟨Nat.le_of_ble_eq_true rfl, Nat.le_of_ble_eq_true rfl⟩) (fun H locs u ce q9 ho hP e1 e2 e3 => ?_) (fun H locs r2 u2 ho hP => ?_)
  · subst ho
    rw [Sum.elim_inl] at h
    by_cases k0 : u.1 = 4
    · rw [if_pos k0] at h
      obtain rfl := Option.some.inj h
      refine ve_catch (j := 4) [] (0, 8, 11, 44) [] S hF htab k0 (fun _ z => absurd z List.not_mem_nil) (by decide) (by decide) cx_L_44 (by decide +kernel) e1 e2 e3 ?_
      refine lv_astore_n (lv' := [(2, .ref q9), (0, .ref (P.2.1 0)), (1, .ref (P.2.1 36))]) hx hb dL_firstTurn_11 rfl hl (by decide) rfl (fun ls hl => ?_)
      refine lv_iconst (v := 1) hx hb dL_firstTurn_12 (by decide) ?_
      exact ve_i (v := 1) S hF hP hr hk rfl dL_firstTurn_13
    rw [if_neg k0] at h
    cases h
  · subst ho
    rw [Sum.elim_inr] at h
    dsimp only at h
    refine lv_i2l hx hb dL_firstTurn_6 rfl ?_
    refine vt_lastK (n := 1) (h := 36) 0 (by decide) S hF hP (hlt _ (by decide)) rfl (by decide) dL_firstTurn_7 (fun H locs hP => ?_)
    refine lv_goto (tgt := 14) hx hb dL_firstTurn_8 (by decide) ?_
    refine lv_iconst (v := 0) hx hb dL_firstTurn_14 (by decide) ?_
    obtain rfl := Option.some.inj h
    exact ve_i (v := 0) S hF hP hr hk rfl dL_firstTurn_15
set_option maxRecDepth 100000 in
set_option maxHeartbeats 4000000 in
theorem c_L_isOdd (l : Launch) (P : Pl) (hA : Adr P) (hn : 38 ≤ P.2.2.2.1) (hst : l.stackTraces = false) (x1 : Int32) (w : Wo) {r : Int32 × Wo} (h : F_L_isOdd w x1 = some r) : CtW l P yL_isOdd cL_isOdd 4 [(0, 16, 19, 44)] 7 1 [.ref (P.2.1 0), .int x1, .ref (P.2.1 36)] w r.1 r.2 := by
  have hlt : ∀ h, h < 38 → h < P.2.2.2.1 := fun h q => Nat.lt_of_lt_of_le q hn
  refine vs_w hA (by decide +kernel) (Nat.le_of_ble_eq_true rfl) (fun p e s m args below meth c ls S hF hP hl hr hk htab => ?_)
  have hx := S.1
  have hb := S.2.1
  replace hl : lv_has ls 4 [(0, .ref (P.2.1 0)), (1, .int x1), (2, .ref (P.2.1 36))] := hl
  unfold F_L_isOdd at h
  obtain ⟨q1, hq1, h⟩ := ob h
  refine lv_aload_n hx hb dL_isOdd_0 rfl (lv_at hl 2 rfl) ?_
  refine lv_iconst (v := 0) hx hb dL_isOdd_1 (by decide) ?_
  refine lv_aload_n hx hb dL_isOdd_2 rfl (lv_at hl 0 rfl) ?_
  refine lv_iload_n hx hb dL_isOdd_3 rfl (lv_at hl 1 rfl) ?_
  refine vu_xi hP (vu_VX S hF hP (h := 0) (hlt _ (by decide)) rfl (by decide) rfl (c_X5_isOdd l P hA (Nat.le_trans (by decide) hn) hst w x1 hq1) ok_X5_isOdd ml_L_66 ⟨Nat.le_of_ble_eq_true rfl, Nat.le_of_ble_eq_true rfl⟩ rfl hl.1 rfl (Nat.le_of_ble_eq_true rfl) dL_isOdd_4 ⟨Nat.le_of_ble_eq_true rfl, Nat.le_of_ble_eq_true rfl⟩) (fun H locs u ce q9 ho hP e1 e2 e3 => ?_) (fun H locs r2 u2 ho hP => ?_)
  · subst ho
    rw [Sum.elim_inl] at h
    by_cases k0 : u.1 = 4
    · rw [if_pos k0] at h
      obtain rfl := Option.some.inj h
      refine ve_catch (j := 4) [] (0, 16, 19, 44) [] S hF htab k0 (fun _ z => absurd z List.not_mem_nil) (by decide) (by decide) cx_L_44 (by decide +kernel) e1 e2 e3 ?_
      refine lv_astore_n (lv' := [(3, .ref q9), (0, .ref (P.2.1 0)), (1, .int x1), (2, .ref (P.2.1 36))]) hx hb dL_isOdd_19 rfl hl (by decide) rfl (fun ls hl => ?_)
      refine lv_iconst (v := 1) hx hb dL_isOdd_20 (by decide) ?_
      exact ve_i (v := 1) S hF hP hr hk rfl dL_isOdd_21
    rw [if_neg k0] at h
    cases h
  · subst ho
    rw [Sum.elim_inr] at h
    dsimp only at h
    refine lv_if_eq (tgt := 14) hx hb dL_isOdd_7 (by decide) (fun k9 => ?_) (fun k9 => ?_)
    · rw [if_pos k9] at h
      refine lv_lconst (v := 0) hx hb dL_isOdd_14 (by decide) ?_
      refine vt_lastK (n := 1) (h := 36) 0 (by decide) S hF hP (hlt _ (by decide)) rfl (by decide) dL_isOdd_15 (fun H locs hP => ?_)
      refine lv_goto (tgt := 22) hx hb dL_isOdd_16 (by decide) ?_
      refine lv_iconst (v := 0) hx hb dL_isOdd_22 (by decide) ?_
      obtain rfl := Option.some.inj h
      exact ve_i (v := 0) S hF hP hr hk rfl dL_isOdd_23
    · rw [if_neg k9] at h
      refine lv_lconst (v := 1) hx hb dL_isOdd_10 (by decide) ?_
      refine lv_goto (tgt := 15) hx hb dL_isOdd_11 (by decide) ?_
      refine vt_lastK (n := 1) (h := 36) 0 (by decide) S hF hP (hlt _ (by decide)) rfl (by decide) dL_isOdd_15 (fun H locs hP => ?_)
      refine lv_goto (tgt := 22) hx hb dL_isOdd_16 (by decide) ?_
      refine lv_iconst (v := 0) hx hb dL_isOdd_22 (by decide) ?_
      obtain rfl := Option.some.inj h
      exact ve_i (v := 0) S hF hP hr hk rfl dL_isOdd_23
set_option maxRecDepth 100000 in
set_option maxHeartbeats 4000000 in
theorem c_L_would (l : Launch) (P : Pl) (hA : Adr P) (hn : 38 ≤ P.2.2.2.1) (hst : l.stackTraces = false) (x1 : Int32) (w : Wo) {r : Int32 × Wo} (h : F_L_would w x1 = some r) : CtW l P yL_would cL_would 4 [(0, 9, 12, 19)] 8 1 [.ref (P.2.1 0), .int x1, .ref (P.2.1 36)] w r.1 r.2 := by
  have hlt : ∀ h, h < 38 → h < P.2.2.2.1 := fun h q => Nat.lt_of_lt_of_le q hn
  refine vs_w hA (by decide +kernel) (Nat.le_of_ble_eq_true rfl) (fun p e s m args below meth c ls S hF hP hl hr hk htab => ?_)
  have hx := S.1
  have hb := S.2.1
  replace hl : lv_has ls 4 [(0, .ref (P.2.1 0)), (1, .int x1), (2, .ref (P.2.1 36))] := hl
  unfold F_L_would at h
  obtain ⟨q1, hq1, h⟩ := ob h
  refine lv_aload_n hx hb dL_would_0 rfl (lv_at hl 2 rfl) ?_
  refine lv_iconst (v := 0) hx hb dL_would_1 (by decide) ?_
  refine lv_aload_n hx hb dL_would_2 rfl (lv_at hl 0 rfl) ?_
  refine lv_iload_n hx hb dL_would_3 rfl (lv_at hl 1 rfl) ?_
  refine vu_xi hP (vu_VX S hF hP (h := 0) (hlt _ (by decide)) rfl (by decide) rfl (c_X5_would l P hA (Nat.le_trans (by decide) hn) hst w x1 hq1) ok_X5_would ml_L_70 ⟨Nat.le_of_ble_eq_true rfl, Nat.le_of_ble_eq_true rfl⟩ rfl hl.1 rfl (Nat.le_of_ble_eq_true rfl) dL_would_4 ⟨Nat.le_of_ble_eq_true rfl, Nat.le_of_ble_eq_true rfl⟩) (fun H locs u ce q9 ho hP e1 e2 e3 => ?_) (fun H locs r2 u2 ho hP => ?_)
  · subst ho
    rw [Sum.elim_inl] at h
    by_cases k0 : u.1 = 1
    · rw [if_pos k0] at h
      obtain rfl := Option.some.inj h
      refine ve_catch (j := 1) [] (0, 9, 12, 19) [] S hF htab k0 (fun _ z => absurd z List.not_mem_nil) (by decide) (by decide) cx_L_19 (by decide +kernel) e1 e2 e3 ?_
      refine lv_astore_n (lv' := [(3, .ref q9), (0, .ref (P.2.1 0)), (1, .int x1), (2, .ref (P.2.1 36))]) hx hb dL_would_12 rfl hl (by decide) rfl (fun ls hl => ?_)
      refine lv_iconst (v := 1) hx hb dL_would_13 (by decide) ?_
      exact ve_i (v := 1) S hF hP hr hk rfl dL_would_14
    rw [if_neg k0] at h
    cases h
  · subst ho
    rw [Sum.elim_inr] at h
    dsimp only at h
    refine lv_i2l hx hb dL_would_7 rfl ?_
    refine vt_lastK (n := 1) (h := 36) 0 (by decide) S hF hP (hlt _ (by decide)) rfl (by decide) dL_would_8 (fun H locs hP => ?_)
    refine lv_goto (tgt := 15) hx hb dL_would_9 (by decide) ?_
    refine lv_iconst (v := 0) hx hb dL_would_15 (by decide) ?_
    obtain rfl := Option.some.inj h
    exact ve_i (v := 0) S hF hP hr hk rfl dL_would_16
set_option maxRecDepth 100000 in
set_option maxHeartbeats 4000000 in
theorem c_L_best (l : Launch) (P : Pl) (hA : Adr P) (hn : 38 ≤ P.2.2.2.1) (hst : l.stackTraces = false) (w : Wo) {r : Int32 × Wo} (h : F_L_best w = some r) : CtW l P yL_best cL_best 3 [(0, 8, 11, 44)] 7 1 [.ref (P.2.1 0), .ref (P.2.1 36)] w r.1 r.2 := by
  have hlt : ∀ h, h < 38 → h < P.2.2.2.1 := fun h q => Nat.lt_of_lt_of_le q hn
  refine vs_w hA (by decide +kernel) (Nat.le_of_ble_eq_true rfl) (fun p e s m args below meth c ls S hF hP hl hr hk htab => ?_)
  have hx := S.1
  have hb := S.2.1
  replace hl : lv_has ls 3 [(0, .ref (P.2.1 0)), (1, .ref (P.2.1 36))] := hl
  unfold F_L_best at h
  obtain ⟨q1, hq1, h⟩ := ob h
  refine lv_aload_n hx hb dL_best_0 rfl (lv_at hl 1 rfl) ?_
  refine lv_iconst (v := 0) hx hb dL_best_1 (by decide) ?_
  refine lv_aload_n hx hb dL_best_2 rfl (lv_at hl 0 rfl) ?_
  refine vu_xi hP (vu_VX S hF hP (h := 0) (hlt _ (by decide)) rfl (by decide) rfl (c_X5_best l P hA (Nat.le_trans (by decide) hn) hst w hq1) ok_X5_best ml_L_73 ⟨Nat.le_of_ble_eq_true rfl, Nat.le_of_ble_eq_true rfl⟩ rfl hl.1 rfl (Nat.le_of_ble_eq_true rfl) dL_best_3 ⟨Nat.le_of_ble_eq_true rfl, Nat.le_of_ble_eq_true rfl⟩) (fun H locs u ce q9 ho hP e1 e2 e3 => ?_) (fun H locs r2 u2 ho hP => ?_)
  · subst ho
    rw [Sum.elim_inl] at h
    by_cases k0 : u.1 = 4
    · rw [if_pos k0] at h
      obtain rfl := Option.some.inj h
      refine ve_catch (j := 4) [] (0, 8, 11, 44) [] S hF htab k0 (fun _ z => absurd z List.not_mem_nil) (by decide) (by decide) cx_L_44 (by decide +kernel) e1 e2 e3 ?_
      refine lv_astore_n (lv' := [(2, .ref q9), (0, .ref (P.2.1 0)), (1, .ref (P.2.1 36))]) hx hb dL_best_11 rfl hl (by decide) rfl (fun ls hl => ?_)
      refine lv_iconst (v := 1) hx hb dL_best_12 (by decide) ?_
      exact ve_i (v := 1) S hF hP hr hk rfl dL_best_13
    rw [if_neg k0] at h
    cases h
  · subst ho
    rw [Sum.elim_inr] at h
    dsimp only at h
    refine lv_i2l hx hb dL_best_6 rfl ?_
    refine vt_lastK (n := 1) (h := 36) 0 (by decide) S hF hP (hlt _ (by decide)) rfl (by decide) dL_best_7 (fun H locs hP => ?_)
    refine lv_goto (tgt := 14) hx hb dL_best_8 (by decide) ?_
    refine lv_iconst (v := 0) hx hb dL_best_14 (by decide) ?_
    obtain rfl := Option.some.inj h
    exact ve_i (v := 0) S hF hP hr hk rfl dL_best_15
set_option maxRecDepth 100000 in
set_option maxHeartbeats 4000000 in
theorem c_L_where (l : Launch) (P : Pl) (hA : Adr P) (hn : 38 ≤ P.2.2.2.1) (hst : l.stackTraces = false) (x1 : Int32) (x2 : Int32) (x3 : Int32) (w : Wo) {r : Int32 × Wo} (h : F_L_where w x1 x2 x3 = some r) : CtW l P yL_where cL_where 6 [(0, 12, 15, 19), (0, 12, 19, 13)] 8 2 [.ref (P.2.1 0), .int x1, .int x2, .int x3, .ref (P.2.1 36)] w r.1 r.2 := by
  have hlt : ∀ h, h < 38 → h < P.2.2.2.1 := fun h q => Nat.lt_of_lt_of_le q hn
  refine vs_w hA (by decide +kernel) (Nat.le_of_ble_eq_true rfl) (fun p e s m args below meth c ls S hF hP hl hr hk htab => ?_)
  have hx := S.1
  have hb := S.2.1
  replace hl : lv_has ls 6 [(0, .ref (P.2.1 0)), (1, .int x1), (2, .int x2), (3, .int x3), (4, .ref (P.2.1 36))] := hl
  unfold F_L_where at h
  obtain ⟨q1, hq1, h⟩ := ob h
  refine lv_aload hx hb dL_where_0 (lv_at hl 4 rfl) ?_
  refine lv_iconst (v := 0) hx hb dL_where_2 (by decide) ?_
  refine lv_aload_n hx hb dL_where_3 rfl (lv_at hl 0 rfl) ?_
  refine lv_iload_n hx hb dL_where_4 rfl (lv_at hl 1 rfl) ?_
  refine lv_iload_n hx hb dL_where_5 rfl (lv_at hl 2 rfl) ?_
  refine lv_iload_n hx hb dL_where_6 rfl (lv_at hl 3 rfl) ?_
  refine vu_xi hP (vu_VX S hF hP (h := 0) (hlt _ (by decide)) rfl (by decide) rfl (c_X5_where l P hA (Nat.le_trans (by decide) hn) hst w x1 x2 x3 hq1) ok_X5_where ml_L_76 ⟨Nat.le_of_ble_eq_true rfl, Nat.le_of_ble_eq_true rfl⟩ rfl hl.1 rfl (Nat.le_of_ble_eq_true rfl) dL_where_7 ⟨Nat.le_of_ble_eq_true rfl, Nat.le_of_ble_eq_true rfl⟩) (fun H locs u ce q9 ho hP e1 e2 e3 => ?_) (fun H locs r2 u2 ho hP => ?_)
  · subst ho
    rw [Sum.elim_inl] at h
    by_cases k0 : u.1 = 1
    · rw [if_pos k0] at h
      obtain rfl := Option.some.inj h
      refine ve_catch (j := 1) [] (0, 12, 15, 19) [(0, 12, 19, 13)] S hF htab k0 (fun _ z => absurd z List.not_mem_nil) (by decide) (by decide) cx_L_19 (by decide +kernel) e1 e2 e3 ?_
      refine lv_astore (lv' := [(5, .ref q9), (0, .ref (P.2.1 0)), (1, .int x1), (2, .int x2), (3, .int x3), (4, .ref (P.2.1 36))]) hx hb dL_where_15 hl (by decide) rfl (fun ls hl => ?_)
      refine lv_iconst (v := 1) hx hb dL_where_17 (by decide) ?_
      exact ve_i (v := 1) S hF hP hr hk rfl dL_where_18
    rw [if_neg k0] at h
    by_cases k1 : u.1 = 2
    · rw [if_pos k1] at h
      obtain rfl := Option.some.inj h
      refine ve_catch (j := 2) [(0, 12, 15, 19)] (0, 12, 19, 13) [] S hF htab k1 (List.forall_mem_cons.mpr ⟨⟨by decide, _, cx_L_19, by decide +kernel⟩, (fun _ z => absurd z List.not_mem_nil)⟩) (by decide) (by decide) cx_L_13 (by decide +kernel) e1 e2 e3 ?_
      refine lv_astore (lv' := [(5, .ref q9), (0, .ref (P.2.1 0)), (1, .int x1), (2, .int x2), (3, .int x3), (4, .ref (P.2.1 36))]) hx hb dL_where_19 hl (by decide) rfl (fun ls hl => ?_)
      refine lv_iconst (v := 2) hx hb dL_where_21 (by decide) ?_
      exact ve_i (v := 2) S hF hP hr hk rfl dL_where_22
    rw [if_neg k1] at h
    cases h
  · subst ho
    rw [Sum.elim_inr] at h
    dsimp only at h
    refine lv_i2l hx hb dL_where_10 rfl ?_
    refine vt_lastK (n := 1) (h := 36) 0 (by decide) S hF hP (hlt _ (by decide)) rfl (by decide) dL_where_11 (fun H locs hP => ?_)
    refine lv_goto (tgt := 23) hx hb dL_where_12 (by decide) ?_
    refine lv_iconst (v := 0) hx hb dL_where_23 (by decide) ?_
    obtain rfl := Option.some.inj h
    exact ve_i (v := 0) S hF hP hr hk rfl dL_where_24
set_option maxRecDepth 100000 in
set_option maxHeartbeats 4000000 in
theorem c_L_far (l : Launch) (P : Pl) (hA : Adr P) (hn : 38 ≤ P.2.2.2.1) (hst : l.stackTraces = false) (x1 : Int32) (x2 : Int32) (w : Wo) {r : Int32 × Wo} (h : F_L_far w x1 x2 = some r) : CtW l P yL_far cL_far 5 [(0, 10, 13, 19)] 8 1 [.ref (P.2.1 0), .int x1, .int x2, .ref (P.2.1 36)] w r.1 r.2 := by
  have hlt : ∀ h, h < 38 → h < P.2.2.2.1 := fun h q => Nat.lt_of_lt_of_le q hn
  refine vs_w hA (by decide +kernel) (Nat.le_of_ble_eq_true rfl) (fun p e s m args below meth c ls S hF hP hl hr hk htab => ?_)
  have hx := S.1
  have hb := S.2.1
  replace hl : lv_has ls 5 [(0, .ref (P.2.1 0)), (1, .int x1), (2, .int x2), (3, .ref (P.2.1 36))] := hl
  unfold F_L_far at h
  obtain ⟨q1, hq1, h⟩ := ob h
  refine lv_aload_n hx hb dL_far_0 rfl (lv_at hl 3 rfl) ?_
  refine lv_iconst (v := 0) hx hb dL_far_1 (by decide) ?_
  refine lv_aload_n hx hb dL_far_2 rfl (lv_at hl 0 rfl) ?_
  refine lv_iload_n hx hb dL_far_3 rfl (lv_at hl 1 rfl) ?_
  refine lv_iload_n hx hb dL_far_4 rfl (lv_at hl 2 rfl) ?_
  refine vu_xi hP (vu_VX S hF hP (h := 0) (hlt _ (by decide)) rfl (by decide) rfl (c_X5_far l P hA (Nat.le_trans (by decide) hn) hst w x1 x2 hq1) ok_X5_far ml_L_80 ⟨Nat.le_of_ble_eq_true rfl, Nat.le_of_ble_eq_true rfl⟩ rfl hl.1 rfl (Nat.le_of_ble_eq_true rfl) dL_far_5 ⟨Nat.le_of_ble_eq_true rfl, Nat.le_of_ble_eq_true rfl⟩) (fun H locs u ce q9 ho hP e1 e2 e3 => ?_) (fun H locs r2 u2 ho hP => ?_)
  · subst ho
    rw [Sum.elim_inl] at h
    by_cases k0 : u.1 = 1
    · rw [if_pos k0] at h
      obtain rfl := Option.some.inj h
      refine ve_catch (j := 1) [] (0, 10, 13, 19) [] S hF htab k0 (fun _ z => absurd z List.not_mem_nil) (by decide) (by decide) cx_L_19 (by decide +kernel) e1 e2 e3 ?_
      refine lv_astore (lv' := [(4, .ref q9), (0, .ref (P.2.1 0)), (1, .int x1), (2, .int x2), (3, .ref (P.2.1 36))]) hx hb dL_far_13 hl (by decide) rfl (fun ls hl => ?_)
      refine lv_iconst (v := 1) hx hb dL_far_15 (by decide) ?_
      exact ve_i (v := 1) S hF hP hr hk rfl dL_far_16
    rw [if_neg k0] at h
    cases h
  · subst ho
    rw [Sum.elim_inr] at h
    dsimp only at h
    refine lv_i2l hx hb dL_far_8 rfl ?_
    refine vt_lastK (n := 1) (h := 36) 0 (by decide) S hF hP (hlt _ (by decide)) rfl (by decide) dL_far_9 (fun H locs hP => ?_)
    refine lv_goto (tgt := 17) hx hb dL_far_10 (by decide) ?_
    refine lv_iconst (v := 0) hx hb dL_far_17 (by decide) ?_
    obtain rfl := Option.some.inj h
    exact ve_i (v := 0) S hF hP hr hk rfl dL_far_18
set_option maxRecDepth 100000 in
set_option maxHeartbeats 4000000 in
theorem c_L_sings (l : Launch) (P : Pl) (hA : Adr P) (hn : 38 ≤ P.2.2.2.1) (hst : l.stackTraces = false) (x1 : Int32) (w : Wo) {r : Int32 × Wo} (h : F_L_sings w x1 = some r) : CtW l P yL_sings cL_sings 4 [(0, 16, 19, 19)] 8 1 [.ref (P.2.1 0), .int x1, .ref (P.2.1 36)] w r.1 r.2 := by
  have hlt : ∀ h, h < 38 → h < P.2.2.2.1 := fun h q => Nat.lt_of_lt_of_le q hn
  refine vs_w hA (by decide +kernel) (Nat.le_of_ble_eq_true rfl) (fun p e s m args below meth c ls S hF hP hl hr hk htab => ?_)
  have hx := S.1
  have hb := S.2.1
  replace hl : lv_has ls 4 [(0, .ref (P.2.1 0)), (1, .int x1), (2, .ref (P.2.1 36))] := hl
  unfold F_L_sings at h
  obtain ⟨q1, hq1, h⟩ := ob h
  refine lv_aload_n hx hb dL_sings_0 rfl (lv_at hl 2 rfl) ?_
  refine lv_iconst (v := 0) hx hb dL_sings_1 (by decide) ?_
  refine lv_aload_n hx hb dL_sings_2 rfl (lv_at hl 0 rfl) ?_
  refine lv_iload_n hx hb dL_sings_3 rfl (lv_at hl 1 rfl) ?_
  refine vu_xi hP (vu_VX S hF hP (h := 0) (hlt _ (by decide)) rfl (by decide) rfl (c_X5_sings l P hA (Nat.le_trans (by decide) hn) hst w x1 hq1) ok_X5_sings ml_L_83 ⟨Nat.le_of_ble_eq_true rfl, Nat.le_of_ble_eq_true rfl⟩ rfl hl.1 rfl (Nat.le_of_ble_eq_true rfl) dL_sings_4 ⟨Nat.le_of_ble_eq_true rfl, Nat.le_of_ble_eq_true rfl⟩) (fun H locs u ce q9 ho hP e1 e2 e3 => ?_) (fun H locs r2 u2 ho hP => ?_)
  · subst ho
    rw [Sum.elim_inl] at h
    by_cases k0 : u.1 = 1
    · rw [if_pos k0] at h
      obtain rfl := Option.some.inj h
      refine ve_catch (j := 1) [] (0, 16, 19, 19) [] S hF htab k0 (fun _ z => absurd z List.not_mem_nil) (by decide) (by decide) cx_L_19 (by decide +kernel) e1 e2 e3 ?_
      refine lv_astore_n (lv' := [(3, .ref q9), (0, .ref (P.2.1 0)), (1, .int x1), (2, .ref (P.2.1 36))]) hx hb dL_sings_19 rfl hl (by decide) rfl (fun ls hl => ?_)
      refine lv_iconst (v := 1) hx hb dL_sings_20 (by decide) ?_
      exact ve_i (v := 1) S hF hP hr hk rfl dL_sings_21
    rw [if_neg k0] at h
    cases h
  · subst ho
    rw [Sum.elim_inr] at h
    dsimp only at h
    refine lv_if_eq (tgt := 14) hx hb dL_sings_7 (by decide) (fun k9 => ?_) (fun k9 => ?_)
    · rw [if_pos k9] at h
      refine lv_lconst (v := 0) hx hb dL_sings_14 (by decide) ?_
      refine vt_lastK (n := 1) (h := 36) 0 (by decide) S hF hP (hlt _ (by decide)) rfl (by decide) dL_sings_15 (fun H locs hP => ?_)
      refine lv_goto (tgt := 22) hx hb dL_sings_16 (by decide) ?_
      refine lv_iconst (v := 0) hx hb dL_sings_22 (by decide) ?_
      obtain rfl := Option.some.inj h
      exact ve_i (v := 0) S hF hP hr hk rfl dL_sings_23
    · rw [if_neg k9] at h
      refine lv_lconst (v := 1) hx hb dL_sings_10 (by decide) ?_
      refine lv_goto (tgt := 15) hx hb dL_sings_11 (by decide) ?_
      refine vt_lastK (n := 1) (h := 36) 0 (by decide) S hF hP (hlt _ (by decide)) rfl (by decide) dL_sings_15 (fun H locs hP => ?_)
      refine lv_goto (tgt := 22) hx hb dL_sings_16 (by decide) ?_
      refine lv_iconst (v := 0) hx hb dL_sings_22 (by decide) ?_
      obtain rfl := Option.some.inj h
      exact ve_i (v := 0) S hF hP hr hk rfl dL_sings_23
set_option maxRecDepth 100000 in
set_option maxHeartbeats 4000000 in
theorem c_L_ranked (l : Launch) (P : Pl) (hA : Adr P) (hn : 38 ≤ P.2.2.2.1) (hst : l.stackTraces = false) (x1 : Int32) (w : Wo) {r : Int32 × Wo} (h : F_L_ranked w x1 = some r) : CtW l P yL_ranked cL_ranked 4 [(0, 9, 12, 44)] 7 1 [.ref (P.2.1 0), .int x1, .ref (P.2.1 36)] w r.1 r.2 := by
  have hlt : ∀ h, h < 38 → h < P.2.2.2.1 := fun h q => Nat.lt_of_lt_of_le q hn
  refine vs_w hA (by decide +kernel) (Nat.le_of_ble_eq_true rfl) (fun p e s m args below meth c ls S hF hP hl hr hk htab => ?_)
  have hx := S.1
  have hb := S.2.1
  replace hl : lv_has ls 4 [(0, .ref (P.2.1 0)), (1, .int x1), (2, .ref (P.2.1 36))] := hl
  unfold F_L_ranked at h
  obtain ⟨q1, hq1, h⟩ := ob h
  refine lv_aload_n hx hb dL_ranked_0 rfl (lv_at hl 2 rfl) ?_
  refine lv_iconst (v := 0) hx hb dL_ranked_1 (by decide) ?_
  refine lv_aload_n hx hb dL_ranked_2 rfl (lv_at hl 0 rfl) ?_
  refine lv_iload_n hx hb dL_ranked_3 rfl (lv_at hl 1 rfl) ?_
  refine vu_xi hP (vu_VX S hF hP (h := 0) (hlt _ (by decide)) rfl (by decide) rfl (c_X5_ranked l P hA (Nat.le_trans (by decide) hn) hst w x1 hq1) ok_X5_ranked ml_L_86 ⟨Nat.le_of_ble_eq_true rfl, Nat.le_of_ble_eq_true rfl⟩ rfl hl.1 rfl (Nat.le_of_ble_eq_true rfl) dL_ranked_4 ⟨Nat.le_of_ble_eq_true rfl, Nat.le_of_ble_eq_true rfl⟩) (fun H locs u ce q9 ho hP e1 e2 e3 => ?_) (fun H locs r2 u2 ho hP => ?_)
  · subst ho
    rw [Sum.elim_inl] at h
    by_cases k0 : u.1 = 4
    · rw [if_pos k0] at h
      obtain rfl := Option.some.inj h
      refine ve_catch (j := 4) [] (0, 9, 12, 44) [] S hF htab k0 (fun _ z => absurd z List.not_mem_nil) (by decide) (by decide) cx_L_44 (by decide +kernel) e1 e2 e3 ?_
      refine lv_astore_n (lv' := [(3, .ref q9), (0, .ref (P.2.1 0)), (1, .int x1), (2, .ref (P.2.1 36))]) hx hb dL_ranked_12 rfl hl (by decide) rfl (fun ls hl => ?_)
      refine lv_iconst (v := 1) hx hb dL_ranked_13 (by decide) ?_
      exact ve_i (v := 1) S hF hP hr hk rfl dL_ranked_14
    rw [if_neg k0] at h
    cases h
  · subst ho
    rw [Sum.elim_inr] at h
    dsimp only at h
    refine lv_i2l hx hb dL_ranked_7 rfl ?_
    refine vt_lastK (n := 1) (h := 36) 0 (by decide) S hF hP (hlt _ (by decide)) rfl (by decide) dL_ranked_8 (fun H locs hP => ?_)
    refine lv_goto (tgt := 15) hx hb dL_ranked_9 (by decide) ?_
    refine lv_iconst (v := 0) hx hb dL_ranked_15 (by decide) ?_
    obtain rfl := Option.some.inj h
    exact ve_i (v := 0) S hF hP hr hk rfl dL_ranked_16
set_option maxRecDepth 100000 in
set_option maxHeartbeats 4000000 in
theorem c_L_lineText (l : Launch) (P : Pl) (hA : Adr P) (hn : 38 ≤ P.2.2.2.1) (hst : l.stackTraces = false) (x1 : Int32) (w : Wo) {r : Int32 × Wo} (h : F_L_lineText w x1 = some r) : CtW l P yL_lineText cL_lineText 4 [(0, 9, 12, 19)] 8 1 [.ref (P.2.1 0), .int x1, .ref (P.2.1 36)] w r.1 r.2 := by
  have hlt : ∀ h, h < 38 → h < P.2.2.2.1 := fun h q => Nat.lt_of_lt_of_le q hn
  refine vs_w hA (by decide +kernel) (Nat.le_of_ble_eq_true rfl) (fun p e s m args below meth c ls S hF hP hl hr hk htab => ?_)
  have hx := S.1
  have hb := S.2.1
  replace hl : lv_has ls 4 [(0, .ref (P.2.1 0)), (1, .int x1), (2, .ref (P.2.1 36))] := hl
  unfold F_L_lineText at h
  obtain ⟨q1, hq1, h⟩ := ob h
  refine lv_aload_n hx hb dL_lineText_0 rfl (lv_at hl 2 rfl) ?_
  refine lv_iconst (v := 0) hx hb dL_lineText_1 (by decide) ?_
  refine lv_aload_n hx hb dL_lineText_2 rfl (lv_at hl 0 rfl) ?_
  refine lv_iload_n hx hb dL_lineText_3 rfl (lv_at hl 1 rfl) ?_
  refine vu_xi hP (vu_VX S hF hP (h := 0) (hlt _ (by decide)) rfl (by decide) rfl (c_X5_lineText l P hA (Nat.le_trans (by decide) hn) hst w x1 hq1) ok_X5_lineText ml_L_89 ⟨Nat.le_of_ble_eq_true rfl, Nat.le_of_ble_eq_true rfl⟩ rfl hl.1 rfl (Nat.le_of_ble_eq_true rfl) dL_lineText_4 ⟨Nat.le_of_ble_eq_true rfl, Nat.le_of_ble_eq_true rfl⟩) (fun H locs u ce q9 ho hP e1 e2 e3 => ?_) (fun H locs r2 u2 ho hP => ?_)
  · subst ho
    rw [Sum.elim_inl] at h
    by_cases k0 : u.1 = 1
    · rw [if_pos k0] at h
      obtain rfl := Option.some.inj h
      refine ve_catch (j := 1) [] (0, 9, 12, 19) [] S hF htab k0 (fun _ z => absurd z List.not_mem_nil) (by decide) (by decide) cx_L_19 (by decide +kernel) e1 e2 e3 ?_
      refine lv_astore_n (lv' := [(3, .ref q9), (0, .ref (P.2.1 0)), (1, .int x1), (2, .ref (P.2.1 36))]) hx hb dL_lineText_12 rfl hl (by decide) rfl (fun ls hl => ?_)
      refine lv_iconst (v := 1) hx hb dL_lineText_13 (by decide) ?_
      exact ve_i (v := 1) S hF hP hr hk rfl dL_lineText_14
    rw [if_neg k0] at h
    cases h
  · subst ho
    rw [Sum.elim_inr] at h
    dsimp only at h
    refine lv_i2l hx hb dL_lineText_7 rfl ?_
    refine vt_lastK (n := 1) (h := 36) 0 (by decide) S hF hP (hlt _ (by decide)) rfl (by decide) dL_lineText_8 (fun H locs hP => ?_)
    refine lv_goto (tgt := 15) hx hb dL_lineText_9 (by decide) ?_
    refine lv_iconst (v := 0) hx hb dL_lineText_15 (by decide) ?_
    obtain rfl := Option.some.inj h
    exact ve_i (v := 0) S hF hP hr hk rfl dL_lineText_16
set_option maxRecDepth 100000 in
set_option maxHeartbeats 4000000 in
theorem c_L_character (l : Launch) (P : Pl) (hA : Adr P) (hn : 38 ≤ P.2.2.2.1) (hst : l.stackTraces = false) (x1 : Int32) (w : Wo) {r : Int32 × Wo} (h : F_L_character w x1 = some r) : CtW l P yL_character cL_character 4 [(0, 9, 12, 19)] 8 1 [.ref (P.2.1 0), .int x1, .ref (P.2.1 36)] w r.1 r.2 := by
  have hlt : ∀ h, h < 38 → h < P.2.2.2.1 := fun h q => Nat.lt_of_lt_of_le q hn
  refine vs_w hA (by decide +kernel) (Nat.le_of_ble_eq_true rfl) (fun p e s m args below meth c ls S hF hP hl hr hk htab => ?_)
  have hx := S.1
  have hb := S.2.1
  replace hl : lv_has ls 4 [(0, .ref (P.2.1 0)), (1, .int x1), (2, .ref (P.2.1 36))] := hl
  unfold F_L_character at h
  obtain ⟨q1, hq1, h⟩ := ob h
  refine lv_aload_n hx hb dL_character_0 rfl (lv_at hl 2 rfl) ?_
  refine lv_iconst (v := 0) hx hb dL_character_1 (by decide) ?_
  refine lv_aload_n hx hb dL_character_2 rfl (lv_at hl 0 rfl) ?_
  refine lv_iload_n hx hb dL_character_3 rfl (lv_at hl 1 rfl) ?_
  refine vu_xi hP (vu_VX S hF hP (h := 0) (hlt _ (by decide)) rfl (by decide) rfl (c_X5_character l P hA (Nat.le_trans (by decide) hn) hst w x1 hq1) ok_X5_character ml_L_92 ⟨Nat.le_of_ble_eq_true rfl, Nat.le_of_ble_eq_true rfl⟩ rfl hl.1 rfl (Nat.le_of_ble_eq_true rfl) dL_character_4 ⟨Nat.le_of_ble_eq_true rfl, Nat.le_of_ble_eq_true rfl⟩) (fun H locs u ce q9 ho hP e1 e2 e3 => ?_) (fun H locs r2 u2 ho hP => ?_)
  · subst ho
    rw [Sum.elim_inl] at h
    by_cases k0 : u.1 = 1
    · rw [if_pos k0] at h
      obtain rfl := Option.some.inj h
      refine ve_catch (j := 1) [] (0, 9, 12, 19) [] S hF htab k0 (fun _ z => absurd z List.not_mem_nil) (by decide) (by decide) cx_L_19 (by decide +kernel) e1 e2 e3 ?_
      refine lv_astore_n (lv' := [(3, .ref q9), (0, .ref (P.2.1 0)), (1, .int x1), (2, .ref (P.2.1 36))]) hx hb dL_character_12 rfl hl (by decide) rfl (fun ls hl => ?_)
      refine lv_iconst (v := 1) hx hb dL_character_13 (by decide) ?_
      exact ve_i (v := 1) S hF hP hr hk rfl dL_character_14
    rw [if_neg k0] at h
    cases h
  · subst ho
    rw [Sum.elim_inr] at h
    dsimp only at h
    refine lv_i2l hx hb dL_character_7 rfl ?_
    refine vt_lastK (n := 1) (h := 36) 0 (by decide) S hF hP (hlt _ (by decide)) rfl (by decide) dL_character_8 (fun H locs hP => ?_)
    refine lv_goto (tgt := 15) hx hb dL_character_9 (by decide) ?_
    refine lv_iconst (v := 0) hx hb dL_character_15 (by decide) ?_
    obtain rfl := Option.some.inj h
    exact ve_i (v := 0) S hF hP hr hk rfl dL_character_16
set_option maxRecDepth 100000 in
set_option maxHeartbeats 4000000 in
theorem c_L_append (l : Launch) (P : Pl) (hA : Adr P) (hn : 38 ≤ P.2.2.2.1) (hst : l.stackTraces = false) (x1 : Int32) (w : Wo) {r : Int32 × Wo} (h : F_L_append w x1 = some r) : CtW l P yL_append cL_append 4 [(0, 9, 12, 99)] 7 1 [.ref (P.2.1 0), .int x1, .ref (P.2.1 36)] w r.1 r.2 := by
  have hlt : ∀ h, h < 38 → h < P.2.2.2.1 := fun h q => Nat.lt_of_lt_of_le q hn
  refine vs_w hA (by decide +kernel) (Nat.le_of_ble_eq_true rfl) (fun p e s m args below meth c ls S hF hP hl hr hk htab => ?_)
  have hx := S.1
  have hb := S.2.1
  replace hl : lv_has ls 4 [(0, .ref (P.2.1 0)), (1, .int x1), (2, .ref (P.2.1 36))] := hl
  unfold F_L_append at h
  obtain ⟨q1, hq1, h⟩ := ob h
  refine lv_aload_n hx hb dL_append_0 rfl (lv_at hl 2 rfl) ?_
  refine lv_iconst (v := 0) hx hb dL_append_1 (by decide) ?_
  refine lv_aload_n hx hb dL_append_2 rfl (lv_at hl 0 rfl) ?_
  refine lv_iload_n hx hb dL_append_3 rfl (lv_at hl 1 rfl) ?_
  refine vu_xi hP (vu_VX S hF hP (h := 0) (hlt _ (by decide)) rfl (by decide) rfl (c_X5_append l P hA (Nat.le_trans (by decide) hn) hst w x1 hq1) ok_X5_append ml_L_95 ⟨Nat.le_of_ble_eq_true rfl, Nat.le_of_ble_eq_true rfl⟩ rfl hl.1 rfl (Nat.le_of_ble_eq_true rfl) dL_append_4 ⟨Nat.le_of_ble_eq_true rfl, Nat.le_of_ble_eq_true rfl⟩) (fun H locs u ce q9 ho hP e1 e2 e3 => ?_) (fun H locs r2 u2 ho hP => ?_)
  · subst ho
    rw [Sum.elim_inl] at h
    by_cases k0 : u.1 = 5
    · rw [if_pos k0] at h
      obtain rfl := Option.some.inj h
      refine ve_catch (j := 5) [] (0, 9, 12, 99) [] S hF htab k0 (fun _ z => absurd z List.not_mem_nil) (by decide) (by decide) cx_L_99 (by decide +kernel) e1 e2 e3 ?_
      refine lv_astore_n (lv' := [(3, .ref q9), (0, .ref (P.2.1 0)), (1, .int x1), (2, .ref (P.2.1 36))]) hx hb dL_append_12 rfl hl (by decide) rfl (fun ls hl => ?_)
      refine lv_iconst (v := 1) hx hb dL_append_13 (by decide) ?_
      exact ve_i (v := 1) S hF hP hr hk rfl dL_append_14
    rw [if_neg k0] at h
    cases h
  · subst ho
    rw [Sum.elim_inr] at h
    dsimp only at h
    refine lv_i2l hx hb dL_append_7 rfl ?_
    refine vt_lastK (n := 1) (h := 36) 0 (by decide) S hF hP (hlt _ (by decide)) rfl (by decide) dL_append_8 (fun H locs hP => ?_)
    refine lv_goto (tgt := 15) hx hb dL_append_9 (by decide) ?_
    refine lv_iconst (v := 0) hx hb dL_append_15 (by decide) ?_
    obtain rfl := Option.some.inj h
    exact ve_i (v := 0) S hF hP hr hk rfl dL_append_16
set_option maxRecDepth 100000 in
set_option maxHeartbeats 4000000 in
theorem c_L_run (l : Launch) (P : Pl) (hA : Adr P) (hn : 38 ≤ P.2.2.2.1) (hst : l.stackTraces = false) (w : Wo) {r : Int32 × Wo} (h : F_L_run w = some r) : CtW l P yL_run cL_run 3 [(0, 8, 11, 13), (0, 8, 14, 21)] 8 1 [.ref (P.2.1 0), .ref (P.2.1 36)] w r.1 r.2 := by
  have hlt : ∀ h, h < 38 → h < P.2.2.2.1 := fun h q => Nat.lt_of_lt_of_le q hn
  refine vs_w hA (by decide +kernel) (Nat.le_of_ble_eq_true rfl) (fun p e s m args below meth c ls S hF hP hl hr hk htab => ?_)
  have hx := S.1
  have hb := S.2.1
  replace hl : lv_has ls 3 [(0, .ref (P.2.1 0)), (1, .ref (P.2.1 36))] := hl
  unfold F_L_run at h
  obtain ⟨q1, hq1, h⟩ := ob h
  refine lv_aload_n hx hb dL_run_0 rfl (lv_at hl 1 rfl) ?_
  refine lv_iconst (v := 0) hx hb dL_run_1 (by decide) ?_
  refine lv_aload_n hx hb dL_run_2 rfl (lv_at hl 0 rfl) ?_
  refine vu_xi hP (vu_VX S hF hP (h := 0) (hlt _ (by decide)) rfl (by decide) rfl (c_X5_run l P hA (Nat.le_trans (by decide) hn) hst w hq1) ok_X5_run ml_L_101 ⟨Nat.le_of_ble_eq_true rfl, Nat.le_of_ble_eq_true rfl⟩ rfl hl.1 rfl (Nat.le_of_ble_eq_true rfl) dL_run_3 ⟨Nat.le_of_ble_eq_true rfl, Nat.le_of_ble_eq_true rfl⟩) (fun H locs u ce q9 ho hP e1 e2 e3 => ?_) (fun H locs r2 u2 ho hP => ?_)
  · subst ho
    rw [Sum.elim_inl] at h
    by_cases k0 : u.1 = 2
    · rw [if_pos k0] at h
      obtain rfl := Option.some.inj h
      refine ve_catch (j := 2) [] (0, 8, 11, 13) [(0, 8, 14, 21)] S hF htab k0 (fun _ z => absurd z List.not_mem_nil) (by decide) (by decide) cx_L_13 (by decide +kernel) e1 e2 e3 ?_
      refine lv_astore_n (lv' := [(2, .ref q9), (0, .ref (P.2.1 0)), (1, .ref (P.2.1 36))]) hx hb dL_run_11 rfl hl (by decide) rfl (fun ls hl => ?_)
      refine lv_iconst (v := 1) hx hb dL_run_12 (by decide) ?_
      exact ve_i (v := 1) S hF hP hr hk rfl dL_run_13
    rw [if_neg k0] at h
    by_cases k1 : u.1 = 3
    · rw [if_pos k1] at h
      obtain rfl := Option.some.inj h
      refine ve_catch (j := 3) [(0, 8, 11, 13)] (0, 8, 14, 21) [] S hF htab k1 (List.forall_mem_cons.mpr ⟨⟨by decide, _, cx_L_13, by decide +kernel⟩, (fun _ z => absurd z List.not_mem_nil)⟩) (by decide) (by decide) cx_L_21 (by decide +kernel) e1 e2 e3 ?_
      refine lv_astore_n (lv' := [(2, .ref q9), (0, .ref (P.2.1 0)), (1, .ref (P.2.1 36))]) hx hb dL_run_14 rfl hl (by decide) rfl (fun ls hl => ?_)
      refine lv_iconst (v := 2) hx hb dL_run_15 (by decide) ?_
      exact ve_i (v := 2) S hF hP hr hk rfl dL_run_16
    rw [if_neg k1] at h
    cases h
  · subst ho
    rw [Sum.elim_inr] at h
    dsimp only at h
    refine lv_i2l hx hb dL_run_6 rfl ?_
    refine vt_lastK (n := 1) (h := 36) 0 (by decide) S hF hP (hlt _ (by decide)) rfl (by decide) dL_run_7 (fun H locs hP => ?_)
    refine lv_goto (tgt := 17) hx hb dL_run_8 (by decide) ?_
    refine lv_iconst (v := 0) hx hb dL_run_17 (by decide) ?_
    obtain rfl := Option.some.inj h
    exact ve_i (v := 0) S hF hP hr hk rfl dL_run_18
set_option maxRecDepth 100000 in
set_option maxHeartbeats 4000000 in
theorem c_L_refusal (l : Launch) (P : Pl) (hA : Adr P) (hn : 38 ≤ P.2.2.2.1) (hst : l.stackTraces = false) (x1 : Int32) (w : Wo) {r : Int32 × Wo} (h : F_L_refusal w x1 = some r) : CtW l P yL_refusal cL_refusal 4 [(0, 9, 12, 44)] 7 1 [.ref (P.2.1 0), .int x1, .ref (P.2.1 36)] w r.1 r.2 := by
  have hlt : ∀ h, h < 38 → h < P.2.2.2.1 := fun h q => Nat.lt_of_lt_of_le q hn
  refine vs_w hA (by decide +kernel) (Nat.le_of_ble_eq_true rfl) (fun p e s m args below meth c ls S hF hP hl hr hk htab => ?_)
  have hx := S.1
  have hb := S.2.1
  replace hl : lv_has ls 4 [(0, .ref (P.2.1 0)), (1, .int x1), (2, .ref (P.2.1 36))] := hl
  unfold F_L_refusal at h
  obtain ⟨q1, hq1, h⟩ := ob h
  refine lv_aload_n hx hb dL_refusal_0 rfl (lv_at hl 2 rfl) ?_
  refine lv_iconst (v := 0) hx hb dL_refusal_1 (by decide) ?_
  refine lv_aload_n hx hb dL_refusal_2 rfl (lv_at hl 0 rfl) ?_
  refine lv_iload_n hx hb dL_refusal_3 rfl (lv_at hl 1 rfl) ?_
  refine vu_xi hP (vu_VX S hF hP (h := 0) (hlt _ (by decide)) rfl (by decide) rfl (c_X5_refusal l P hA (Nat.le_trans (by decide) hn) hst w x1 hq1) ok_X5_refusal ml_L_104 ⟨Nat.le_of_ble_eq_true rfl, Nat.le_of_ble_eq_true rfl⟩ rfl hl.1 rfl (Nat.le_of_ble_eq_true rfl) dL_refusal_4 ⟨Nat.le_of_ble_eq_true rfl, Nat.le_of_ble_eq_true rfl⟩) (fun H locs u ce q9 ho hP e1 e2 e3 => ?_) (fun H locs r2 u2 ho hP => ?_)
  · subst ho
    rw [Sum.elim_inl] at h
    by_cases k0 : u.1 = 4
    · rw [if_pos k0] at h
      obtain rfl := Option.some.inj h
      refine ve_catch (j := 4) [] (0, 9, 12, 44) [] S hF htab k0 (fun _ z => absurd z List.not_mem_nil) (by decide) (by decide) cx_L_44 (by decide +kernel) e1 e2 e3 ?_
      refine lv_astore_n (lv' := [(3, .ref q9), (0, .ref (P.2.1 0)), (1, .int x1), (2, .ref (P.2.1 36))]) hx hb dL_refusal_12 rfl hl (by decide) rfl (fun ls hl => ?_)
      refine lv_iconst (v := 1) hx hb dL_refusal_13 (by decide) ?_
      exact ve_i (v := 1) S hF hP hr hk rfl dL_refusal_14
    rw [if_neg k0] at h
    cases h
  · subst ho
    rw [Sum.elim_inr] at h
    dsimp only at h
    refine lv_i2l hx hb dL_refusal_7 rfl ?_
    refine vt_lastK (n := 1) (h := 36) 0 (by decide) S hF hP (hlt _ (by decide)) rfl (by decide) dL_refusal_8 (fun H locs hP => ?_)
    refine lv_goto (tgt := 15) hx hb dL_refusal_9 (by decide) ?_
    refine lv_iconst (v := 0) hx hb dL_refusal_15 (by decide) ?_
    obtain rfl := Option.some.inj h
    exact ve_i (v := 0) S hF hP hr hk rfl dL_refusal_16
set_option maxRecDepth 100000 in
set_option maxHeartbeats 4000000 in
theorem c_L_account (l : Launch) (P : Pl) (hA : Adr P) (hn : 38 ≤ P.2.2.2.1) (hst : l.stackTraces = false) (x1 : Int32) (w : Wo) {r : Int32 × Wo} (h : F_L_account w x1 = some r) : CtW l P yL_account cL_account 4 [(0, 9, 12, 13)] 7 1 [.ref (P.2.1 0), .int x1, .ref (P.2.1 36)] w r.1 r.2 := by
  have hlt : ∀ h, h < 38 → h < P.2.2.2.1 := fun h q => Nat.lt_of_lt_of_le q hn
  refine vs_w hA (by decide +kernel) (Nat.le_of_ble_eq_true rfl) (fun p e s m args below meth c ls S hF hP hl hr hk htab => ?_)
  have hx := S.1
  have hb := S.2.1
  replace hl : lv_has ls 4 [(0, .ref (P.2.1 0)), (1, .int x1), (2, .ref (P.2.1 36))] := hl
  unfold F_L_account at h
  obtain ⟨q1, hq1, h⟩ := ob h
  refine lv_aload_n hx hb dL_account_0 rfl (lv_at hl 2 rfl) ?_
  refine lv_iconst (v := 0) hx hb dL_account_1 (by decide) ?_
  refine lv_aload_n hx hb dL_account_2 rfl (lv_at hl 0 rfl) ?_
  refine lv_iload_n hx hb dL_account_3 rfl (lv_at hl 1 rfl) ?_
  refine vu_xi hP (vu_VX S hF hP (h := 0) (hlt _ (by decide)) rfl (by decide) rfl (c_X5_account l P hA (Nat.le_trans (by decide) hn) hst w x1 hq1) ok_X5_account ml_L_107 ⟨Nat.le_of_ble_eq_true rfl, Nat.le_of_ble_eq_true rfl⟩ rfl hl.1 rfl (Nat.le_of_ble_eq_true rfl) dL_account_4 ⟨Nat.le_of_ble_eq_true rfl, Nat.le_of_ble_eq_true rfl⟩) (fun H locs u ce q9 ho hP e1 e2 e3 => ?_) (fun H locs r2 u2 ho hP => ?_)
  · subst ho
    rw [Sum.elim_inl] at h
    by_cases k0 : u.1 = 2
    · rw [if_pos k0] at h
      obtain rfl := Option.some.inj h
      refine ve_catch (j := 2) [] (0, 9, 12, 13) [] S hF htab k0 (fun _ z => absurd z List.not_mem_nil) (by decide) (by decide) cx_L_13 (by decide +kernel) e1 e2 e3 ?_
      refine lv_astore_n (lv' := [(3, .ref q9), (0, .ref (P.2.1 0)), (1, .int x1), (2, .ref (P.2.1 36))]) hx hb dL_account_12 rfl hl (by decide) rfl (fun ls hl => ?_)
      refine lv_iconst (v := 1) hx hb dL_account_13 (by decide) ?_
      exact ve_i (v := 1) S hF hP hr hk rfl dL_account_14
    rw [if_neg k0] at h
    cases h
  · subst ho
    rw [Sum.elim_inr] at h
    dsimp only at h
    refine lv_i2l hx hb dL_account_7 rfl ?_
    refine vt_lastK (n := 1) (h := 36) 0 (by decide) S hF hP (hlt _ (by decide)) rfl (by decide) dL_account_8 (fun H locs hP => ?_)
    refine lv_goto (tgt := 15) hx hb dL_account_9 (by decide) ?_
    refine lv_iconst (v := 0) hx hb dL_account_15 (by decide) ?_
    obtain rfl := Option.some.inj h
    exact ve_i (v := 0) S hF hP hr hk rfl dL_account_16
set_option maxRecDepth 100000 in
set_option maxHeartbeats 4000000 in
theorem c_L_meanFar (l : Launch) (P : Pl) (hA : Adr P) (hn : 38 ≤ P.2.2.2.1) (hst : l.stackTraces = false) (w : Wo) {r : Int32 × Wo} (h : F_L_meanFar w = some r) : CtW l P yL_meanFar cL_meanFar 3 [(0, 7, 10, 114)] 7 1 [.ref (P.2.1 0), .ref (P.2.1 37)] w r.1 r.2 := by
  have hlt : ∀ h, h < 38 → h < P.2.2.2.1 := fun h q => Nat.lt_of_lt_of_le q hn
  refine vs_w hA (by decide +kernel) (Nat.le_of_ble_eq_true rfl) (fun p e s m args below meth c ls S hF hP hl hr hk htab => ?_)
  have hx := S.1
  have hb := S.2.1
  replace hl : lv_has ls 3 [(0, .ref (P.2.1 0)), (1, .ref (P.2.1 37))] := hl
  unfold F_L_meanFar at h
  obtain ⟨q1, hq1, h⟩ := ob h
  refine lv_aload_n hx hb dL_meanFar_0 rfl (lv_at hl 1 rfl) ?_
  refine lv_iconst (v := 0) hx hb dL_meanFar_1 (by decide) ?_
  refine lv_aload_n hx hb dL_meanFar_2 rfl (lv_at hl 0 rfl) ?_
  refine vu_xd hP (vu_VX S hF hP (h := 0) (hlt _ (by decide)) rfl (by decide) rfl (c_X5_meanFar l P hA (Nat.le_trans (by decide) hn) hst w hq1) ok_X5_meanFar ml_L_110 ⟨Nat.le_of_ble_eq_true rfl, Nat.le_of_ble_eq_true rfl⟩ rfl hl.1 rfl (Nat.le_of_ble_eq_true rfl) dL_meanFar_3 ⟨Nat.le_of_ble_eq_true rfl, Nat.le_of_ble_eq_true rfl⟩) (fun H locs u ce q9 ho hP e1 e2 e3 => ?_) (fun H locs r2 u2 ho hP => ?_)
  · subst ho
    rw [Sum.elim_inl] at h
    by_cases k0 : u.1 = 6
    · rw [if_pos k0] at h
      obtain rfl := Option.some.inj h
      refine ve_catch (j := 6) [] (0, 7, 10, 114) [] S hF htab k0 (fun _ z => absurd z List.not_mem_nil) (by decide) (by decide) cx_L_114 (by decide +kernel) e1 e2 e3 ?_
      refine lv_astore_n (lv' := [(2, .ref q9), (0, .ref (P.2.1 0)), (1, .ref (P.2.1 37))]) hx hb dL_meanFar_10 rfl hl (by decide) rfl (fun ls hl => ?_)
      refine lv_iconst (v := 1) hx hb dL_meanFar_11 (by decide) ?_
      exact ve_i (v := 1) S hF hP hr hk rfl dL_meanFar_12
    rw [if_neg k0] at h
    cases h
  · subst ho
    rw [Sum.elim_inr] at h
    dsimp only at h
    refine vt_dastK (n := 1) (h := 37) 0 (by decide) S hF hP (hlt _ (by decide)) rfl (by decide) dL_meanFar_6 (fun H locs hP => ?_)
    refine lv_goto (tgt := 13) hx hb dL_meanFar_7 (by decide) ?_
    refine lv_iconst (v := 0) hx hb dL_meanFar_13 (by decide) ?_
    obtain rfl := Option.some.inj h
    exact ve_i (v := 0) S hF hP hr hk rfl dL_meanFar_14
set_option maxRecDepth 100000 in
set_option maxHeartbeats 4000000 in
theorem c_L_undo (l : Launch) (P : Pl) (hA : Adr P) (hn : 38 ≤ P.2.2.2.1) (hst : l.stackTraces = false) (w : Wo) {r : Int32 × Wo} (h : F_L_undo w = some r) : CtW l P yL_undo cL_undo 3 [(0, 8, 11, 99)] 7 1 [.ref (P.2.1 0), .ref (P.2.1 36)] w r.1 r.2 := by
  have hlt : ∀ h, h < 38 → h < P.2.2.2.1 := fun h q => Nat.lt_of_lt_of_le q hn
  refine vs_w hA (by decide +kernel) (Nat.le_of_ble_eq_true rfl) (fun p e s m args below meth c ls S hF hP hl hr hk htab => ?_)
  have hx := S.1
  have hb := S.2.1
  replace hl : lv_has ls 3 [(0, .ref (P.2.1 0)), (1, .ref (P.2.1 36))] := hl
  unfold F_L_undo at h
  obtain ⟨q1, hq1, h⟩ := ob h
  refine lv_aload_n hx hb dL_undo_0 rfl (lv_at hl 1 rfl) ?_
  refine lv_iconst (v := 0) hx hb dL_undo_1 (by decide) ?_
  refine lv_aload_n hx hb dL_undo_2 rfl (lv_at hl 0 rfl) ?_
  refine vu_xi hP (vu_VX S hF hP (h := 0) (hlt _ (by decide)) rfl (by decide) rfl (c_X5_undo l P hA (Nat.le_trans (by decide) hn) hst w hq1) ok_X5_undo ml_L_116 ⟨Nat.le_of_ble_eq_true rfl, Nat.le_of_ble_eq_true rfl⟩ rfl hl.1 rfl (Nat.le_of_ble_eq_true rfl) dL_undo_3 ⟨Nat.le_of_ble_eq_true rfl, Nat.le_of_ble_eq_true rfl⟩) (fun H locs u ce q9 ho hP e1 e2 e3 => ?_) (fun H locs r2 u2 ho hP => ?_)
  · subst ho
    rw [Sum.elim_inl] at h
    by_cases k0 : u.1 = 5
    · rw [if_pos k0] at h
      obtain rfl := Option.some.inj h
      refine ve_catch (j := 5) [] (0, 8, 11, 99) [] S hF htab k0 (fun _ z => absurd z List.not_mem_nil) (by decide) (by decide) cx_L_99 (by decide +kernel) e1 e2 e3 ?_
      refine lv_astore_n (lv' := [(2, .ref q9), (0, .ref (P.2.1 0)), (1, .ref (P.2.1 36))]) hx hb dL_undo_11 rfl hl (by decide) rfl (fun ls hl => ?_)
      refine lv_iconst (v := 1) hx hb dL_undo_12 (by decide) ?_
      exact ve_i (v := 1) S hF hP hr hk rfl dL_undo_13
    rw [if_neg k0] at h
    cases h
  · subst ho
    rw [Sum.elim_inr] at h
    dsimp only at h
    refine lv_i2l hx hb dL_undo_6 rfl ?_
    refine vt_lastK (n := 1) (h := 36) 0 (by decide) S hF hP (hlt _ (by decide)) rfl (by decide) dL_undo_7 (fun H locs hP => ?_)
    refine lv_goto (tgt := 14) hx hb dL_undo_8 (by decide) ?_
    refine lv_iconst (v := 0) hx hb dL_undo_14 (by decide) ?_
    obtain rfl := Option.some.inj h
    exact ve_i (v := 0) S hF hP hr hk rfl dL_undo_15
set_option maxRecDepth 100000 in
set_option maxHeartbeats 4000000 in
theorem c_L_restore (l : Launch) (P : Pl) (hA : Adr P) (hn : 38 ≤ P.2.2.2.1) (hst : l.stackTraces = false) (w : Wo) {r : Int32 × Wo} (h : F_L_restore w = some r) : CtW l P yL_restore cL_restore 3 [(0, 8, 11, 99)] 7 1 [.ref (P.2.1 0), .ref (P.2.1 36)] w r.1 r.2 := by
  have hlt : ∀ h, h < 38 → h < P.2.2.2.1 := fun h q => Nat.lt_of_lt_of_le q hn
  refine vs_w hA (by decide +kernel) (Nat.le_of_ble_eq_true rfl) (fun p e s m args below meth c ls S hF hP hl hr hk htab => ?_)
  have hx := S.1
  have hb := S.2.1
  replace hl : lv_has ls 3 [(0, .ref (P.2.1 0)), (1, .ref (P.2.1 36))] := hl
  unfold F_L_restore at h
  obtain ⟨q1, hq1, h⟩ := ob h
  refine lv_aload_n hx hb dL_restore_0 rfl (lv_at hl 1 rfl) ?_
  refine lv_iconst (v := 0) hx hb dL_restore_1 (by decide) ?_
  refine lv_aload_n hx hb dL_restore_2 rfl (lv_at hl 0 rfl) ?_
  refine vu_xi hP (vu_VX S hF hP (h := 0) (hlt _ (by decide)) rfl (by decide) rfl (c_X5_restore l P hA (Nat.le_trans (by decide) hn) hst w hq1) ok_X5_restore ml_L_119 ⟨Nat.le_of_ble_eq_true rfl, Nat.le_of_ble_eq_true rfl⟩ rfl hl.1 rfl (Nat.le_of_ble_eq_true rfl) dL_restore_3 ⟨Nat.le_of_ble_eq_true rfl, Nat.le_of_ble_eq_true rfl⟩) (fun H locs u ce q9 ho hP e1 e2 e3 => ?_) (fun H locs r2 u2 ho hP => ?_)
  · subst ho
    rw [Sum.elim_inl] at h
    by_cases k0 : u.1 = 5
    · rw [if_pos k0] at h
      obtain rfl := Option.some.inj h
      refine ve_catch (j := 5) [] (0, 8, 11, 99) [] S hF htab k0 (fun _ z => absurd z List.not_mem_nil) (by decide) (by decide) cx_L_99 (by decide +kernel) e1 e2 e3 ?_
      refine lv_astore_n (lv' := [(2, .ref q9), (0, .ref (P.2.1 0)), (1, .ref (P.2.1 36))]) hx hb dL_restore_11 rfl hl (by decide) rfl (fun ls hl => ?_)
      refine lv_iconst (v := 1) hx hb dL_restore_12 (by decide) ?_
      exact ve_i (v := 1) S hF hP hr hk rfl dL_restore_13
    rw [if_neg k0] at h
    cases h
  · subst ho
    rw [Sum.elim_inr] at h
    dsimp only at h
    refine lv_i2l hx hb dL_restore_6 rfl ?_
    refine vt_lastK (n := 1) (h := 36) 0 (by decide) S hF hP (hlt _ (by decide)) rfl (by decide) dL_restore_7 (fun H locs hP => ?_)
    refine lv_goto (tgt := 14) hx hb dL_restore_8 (by decide) ?_
    refine lv_iconst (v := 0) hx hb dL_restore_14 (by decide) ?_
    obtain rfl := Option.some.inj h
    exact ve_i (v := 0) S hF hP hr hk rfl dL_restore_15
