set_option maxRecDepth 100000 in
set_option maxHeartbeats 4000000 in
theorem c_X0_init (l : Launch) (P : Pl) (hA : Up P) (h : Nat) (hs : (shp h).1 = 0) (hh : h < P.2.2.2.1) (fl : Nat → Nat → Bool) (w : Wo) : CtC l P yX0_init cX0_init 1 1 0 0 [.ref (P.2.1 h)] fl w P fl (N_X0 h w) := by
  unfold N_X0
  refine vk_met hA (by decide +kernel) (Nat.le_of_ble_eq_true rfl) (fun p e s m args below meth c ls S hF hP hl hr hk hnm => ?_)
  have hx := S.1
  have hb := S.2.1
  replace hl : lv_has ls 1 [(0, .ref (P.2.1 h))] := hl
  refine lv_aload_n hx hb dX0_init_0 rfl (lv_at hl 0 rfl) ?_
  refine vk_obj S ol_X0 ob_inst ob_code hl.1 dX0_init_1 (Nat.le_of_ble_eq_true rfl) (Nat.le_of_ble_eq_true rfl) ?_
  refine lv_aload_n hx hb dX0_init_4 rfl (lv_at hl 0 rfl) ?_
  refine lv_iconst (v := 3) hx hb dX0_init_5 (by decide) ?_
  refine vk_put (k := 0) (ci := 0) S hF hP h hh hs (by decide) rfl (by decide) tyX0 tyX0_ok nmX0 rfl rfl rfl (by decide) (inC_X0 _) (List.mem_cons_of_mem _ fl_X0_9) dX0_init_6 (cec_putI hs (by decide) rfl) (fun j hj => cec_pI hj) (fun H locs hP => ?_)
  refine lv_aload_n hx hb dX0_init_9 rfl (lv_at hl 0 rfl) ?_
  refine lv_iconst (v := 3) hx hb dX0_init_10 (by decide) ?_
  refine vk_put (k := 1) (ci := 0) S hF hP h hh hs (by decide) rfl (by decide) tyX0 tyX0_ok nmX0 rfl rfl rfl (by decide) (inC_X0 _) (List.mem_cons_of_mem _ fl_X0_15) dX0_init_11 (cec_putI hs (by decide) rfl) (fun j hj => cec_pI hj) (fun H locs hP => ?_)
  refine lv_aload_n hx hb dX0_init_14 rfl (lv_at hl 0 rfl) ?_
  refine lv_lconst (v := 0) hx hb dX0_init_15 (by decide) ?_
  refine vk_put (k := 2) (ci := 0) S hF hP h hh hs (by decide) rfl (by decide) tyX0 tyX0_ok nmX0 rfl rfl rfl (by decide) (inC_X0 _) (List.mem_cons_of_mem _ fl_X0_18) dX0_init_16 (cec_putL hs (by decide) rfl) (fun j hj => cec_pL hj) (fun H locs hP => ?_)
  refine lv_aload_n hx hb dX0_init_19 rfl (lv_at hl 0 rfl) ?_
  refine lv_lconst (v := 0) hx hb dX0_init_20 (by decide) ?_
  refine vk_put (k := 3) (ci := 0) S hF hP h hh hs (by decide) rfl (by decide) tyX0 tyX0_ok nmX0 rfl rfl rfl (by decide) (inC_X0 _) (List.mem_cons_of_mem _ fl_X0_22) dX0_init_21 (cec_putL hs (by decide) rfl) (fun j hj => cec_pL hj) (fun H locs hP => ?_)
  refine lv_aload_n hx hb dX0_init_24 rfl (lv_at hl 0 rfl) ?_
  refine lv_iconst (v := 0) hx hb dX0_init_25 (by decide) ?_
  refine vk_put (k := 4) (ci := 0) S hF hP h hh hs (by decide) rfl (by decide) tyX0 tyX0_ok nmX0 rfl rfl rfl (by decide) (inC_X0 _) (List.mem_cons_of_mem _ fl_X0_25) dX0_init_26 (cec_putI hs (by decide) rfl) (fun j hj => cec_pI hj) (fun H locs hP => ?_)
  refine lv_aload_n hx hb dX0_init_29 rfl (lv_at hl 0 rfl) ?_
  refine lv_iconst (v := 0) hx hb dX0_init_30 (by decide) ?_
  refine vk_put (k := 5) (ci := 0) S hF hP h hh hs (by decide) rfl (by decide) tyX0 tyX0_ok nmX0 rfl rfl rfl (by decide) (inC_X0 _) (List.mem_cons_of_mem _ fl_X0_28) dX0_init_31 (cec_putI hs (by decide) rfl) (fun j hj => cec_pI hj) (fun H locs hP => ?_)
  refine lv_aload_n hx hb dX0_init_34 rfl (lv_at hl 0 rfl) ?_
  refine lv_iconst (v := 0) hx hb dX0_init_35 (by decide) ?_
  refine vk_put (k := 6) (ci := 0) S hF hP h hh hs (by decide) rfl (by decide) tyX0 tyX0_ok nmX0 rfl rfl rfl (by decide) (inC_X0 _) (List.mem_cons_of_mem _ fl_X0_31) dX0_init_36 (cec_putI hs (by decide) rfl) (fun j hj => cec_pI hj) (fun H locs hP => ?_)
  refine lv_aload_n hx hb dX0_init_39 rfl (lv_at hl 0 rfl) ?_
  refine lv_iconst (v := 0) hx hb dX0_init_40 (by decide) ?_
  refine vk_put (k := 7) (ci := 0) S hF hP h hh hs (by decide) rfl (by decide) tyX0 tyX0_ok nmX0 rfl rfl rfl (by decide) (inC_X0 _) (List.mem_cons_of_mem _ fl_X0_34) dX0_init_41 (cec_putI hs (by decide) rfl) (fun j hj => cec_pI hj) (fun H locs hP => ?_)
  refine lv_aload_n hx hb dX0_init_44 rfl (lv_at hl 0 rfl) ?_
  refine lv_iconst (v := 0) hx hb dX0_init_45 (by decide) ?_
  refine vk_put (k := 8) (ci := 0) S hF hP h hh hs (by decide) rfl (by decide) tyX0 tyX0_ok nmX0 rfl rfl rfl (by decide) (inC_X0 _) (List.mem_cons_of_mem _ fl_X0_37) dX0_init_46 (cec_putI hs (by decide) rfl) (fun j hj => cec_pI hj) (fun H locs hP => ?_)
  refine lv_aload_n hx hb dX0_init_49 rfl (lv_at hl 0 rfl) ?_
  refine lv_iconst (v := 0) hx hb dX0_init_50 (by decide) ?_
  refine vk_put (k := 9) (ci := 0) S hF hP h hh hs (by decide) rfl (by decide) tyX0 tyX0_ok nmX0 rfl rfl rfl (by decide) (inC_X0 _) (List.mem_cons_of_mem _ fl_X0_40) dX0_init_51 (cec_putI hs (by decide) rfl) (fun j hj => cec_pI hj) (fun H locs hP => ?_)
  refine lv_aload_n hx hb dX0_init_54 rfl (lv_at hl 0 rfl) ?_
  refine lv_iconst (v := 0) hx hb dX0_init_55 (by decide) ?_
  refine vk_put (k := 10) (ci := 0) S hF hP h hh hs (by decide) rfl (by decide) tyX0 tyX0_ok nmX0 rfl rfl rfl (by decide) (inC_X0 _) (List.mem_cons_of_mem _ fl_X0_43) dX0_init_56 (cec_putI hs (by decide) rfl) (fun j hj => cec_pI hj) (fun H locs hP => ?_)
  refine W.widen (k := 0) (n := 0) (Nat.le_of_ble_eq_true rfl) (Nat.le_of_ble_eq_true rfl) ?_
  exact vk_ret S hP hr hk dX0_init_59
set_option maxRecDepth 100000 in
set_option maxHeartbeats 4000000 in
theorem c_X1_init (l : Launch) (P : Pl) (hA : Up P) (hup : ∀ k, k < 26 → P.2.1 (k + 1) = P.2.1 k + 1) (fl : Nat → Nat → Bool) (w : Wo) (hw : Fr 15 w) : CtC l (Pn P 15) yX1_init cX1_init 1 1 4 340 [.ref (P.2.1 14)] fl w (Pn P 19) (G_X1 fl) (N_X1 w) := by
  unfold N_X1 G_X1
  refine vk_met hA (by decide +kernel) (Nat.le_of_ble_eq_true rfl) (fun p e s m args below meth c ls S hF hP hl hr hk hnm => ?_)
  have hx := S.1
  have hb := S.2.1
  replace hl : lv_has ls 1 [(0, .ref (P.2.1 14))] := hl
  refine lv_aload_n hx hb dX1_init_0 rfl (lv_at hl 0 rfl) ?_
  refine vk_obj S ol_X1 ob_inst ob_code hl.1 dX1_init_1 (Nat.le_of_ble_eq_true rfl) (Nat.le_of_ble_eq_true rfl) ?_
  refine lv_aload_n hx hb dX1_init_4 rfl (lv_at hl 0 rfl) ?_
  refine lv_sipush (v := 157) hx hb dX1_init_5 (by decide) ?_
  refine vk_newa (n := 15) (t := 1) (K := 157) S (hF.n 15) hP rfl rfl rfl rfl (vk_cellL (n := 15) (N := 157) rfl (fun k => ((Fr.mono (m := 15) hw (by decide)) 15 k (Nat.le_refl _)).2.1)) (fun _ z => z) ac_long (hup _ (by decide)) (by decide) (by decide) (by decide) (Nat.le_of_ble_eq_true rfl) (Nat.le_of_ble_eq_true rfl) dX1_init_8 (fun H hP => ?_)
  refine vk_putF (k := 0) (ci := 1) S (hF.n 16) hP 14 (show 14 < 16 by decide) rfl (by decide) rfl (by decide) tyX1 tyX1_ok nmX1 rfl hnm rfl rfl rfl (by decide) (inC_X1 _) (List.mem_cons_of_mem _ fl_X1_9) dX1_init_10 (cec_putR rfl (by decide) rfl) (fun j hj => cec_upF hj) (fun H locs hP => ?_)
  refine lv_aload_n hx hb dX1_init_13 rfl (lv_at hl 0 rfl) ?_
  refine lv_sipush (v := 157) hx hb dX1_init_14 (by decide) ?_
  refine vk_newa (n := 16) (t := 0) (K := 157) S (hF.n 16) hP rfl rfl rfl rfl (vk_cellI (n := 16) (N := 157) rfl (fun k => ((Fr.mono (m := 16) hw (by decide)) 16 k (Nat.le_refl _)).1)) (fun _ z => z) ac_int (hup _ (by decide)) (by decide) (by decide) (by decide) (Nat.le_of_ble_eq_true rfl) (Nat.le_of_ble_eq_true rfl) dX1_init_17 (fun H hP => ?_)
  refine vk_putF (k := 1) (ci := 1) S (hF.n 17) hP 14 (show 14 < 17 by decide) rfl (by decide) rfl (by decide) tyX1 tyX1_ok nmX1 rfl hnm rfl rfl rfl (by decide) (inC_X1 _) (List.mem_cons_of_mem _ fl_X1_15) dX1_init_19 (cec_putR rfl (by decide) rfl) (fun j hj => cec_upF hj) (fun H locs hP => ?_)
  refine lv_aload_n hx hb dX1_init_22 rfl (lv_at hl 0 rfl) ?_
  refine lv_bipush (v := 13) hx hb dX1_init_23 (by decide) ?_
  refine vk_newa (n := 17) (t := 1) (K := 13) S (hF.n 17) hP rfl rfl rfl rfl (vk_cellL (n := 17) (N := 13) rfl (fun k => ((Fr.mono (m := 17) hw (by decide)) 17 k (Nat.le_refl _)).2.1)) (fun _ z => z) ac_long (hup _ (by decide)) (by decide) (by decide) (by decide) (Nat.le_of_ble_eq_true rfl) (Nat.le_of_ble_eq_true rfl) dX1_init_25 (fun H hP => ?_)
  refine vk_putF (k := 2) (ci := 1) S (hF.n 18) hP 14 (show 14 < 18 by decide) rfl (by decide) rfl (by decide) tyX1 tyX1_ok nmX1 rfl hnm rfl rfl rfl (by decide) (inC_X1 _) (List.mem_cons_of_mem _ fl_X1_19) dX1_init_27 (cec_putR rfl (by decide) rfl) (fun j hj => cec_upF hj) (fun H locs hP => ?_)
  refine lv_aload_n hx hb dX1_init_30 rfl (lv_at hl 0 rfl) ?_
  refine lv_bipush (v := 13) hx hb dX1_init_31 (by decide) ?_
  refine vk_newa (n := 18) (t := 1) (K := 13) S (hF.n 18) hP rfl rfl rfl rfl (vk_cellL (n := 18) (N := 13) rfl (fun k => ((Fr.mono (m := 18) hw (by decide)) 18 k (Nat.le_refl _)).2.1)) (fun _ z => z) ac_long (hup _ (by decide)) (by decide) (by decide) (by decide) (Nat.le_of_ble_eq_true rfl) (Nat.le_of_ble_eq_true rfl) dX1_init_33 (fun H hP => ?_)
  refine vk_putF (k := 3) (ci := 1) S (hF.n 19) hP 14 (show 14 < 19 by decide) rfl (by decide) rfl (by decide) tyX1 tyX1_ok nmX1 rfl hnm rfl rfl rfl (by decide) (inC_X1 _) (List.mem_cons_of_mem _ fl_X1_22) dX1_init_35 (cec_putR rfl (by decide) rfl) (fun j hj => cec_upF hj) (fun H locs hP => ?_)
  refine lv_aload_n hx hb dX1_init_38 rfl (lv_at hl 0 rfl) ?_
  refine lv_iconst (v := 0) hx hb dX1_init_39 (by decide) ?_
  refine vk_put (k := 4) (ci := 1) S (hF.n 19) hP 14 (show 14 < 19 by decide) rfl (by decide) rfl (by decide) tyX1 tyX1_ok nmX1 rfl rfl rfl (by decide) (inC_X1 _) (List.mem_cons_of_mem _ fl_X1_25) dX1_init_40 (cec_putI rfl (by decide) rfl) (fun j hj => cec_pI hj) (fun H locs hP => ?_)
  refine lv_aload_n hx hb dX1_init_43 rfl (lv_at hl 0 rfl) ?_
  refine lv_iconst (v := 0) hx hb dX1_init_44 (by decide) ?_
  refine vk_put (k := 5) (ci := 1) S (hF.n 19) hP 14 (show 14 < 19 by decide) rfl (by decide) rfl (by decide) tyX1 tyX1_ok nmX1 rfl rfl rfl (by decide) (inC_X1 _) (List.mem_cons_of_mem _ fl_X1_29) dX1_init_45 (cec_putI rfl (by decide) rfl) (fun j hj => cec_pI hj) (fun H locs hP => ?_)
  refine lv_aload_n hx hb dX1_init_48 rfl (lv_at hl 0 rfl) ?_
  refine lv_iconst (v := 4) hx hb dX1_init_49 (by decide) ?_
  refine vk_put (k := 6) (ci := 1) S (hF.n 19) hP 14 (show 14 < 19 by decide) rfl (by decide) rfl (by decide) tyX1 tyX1_ok nmX1 rfl rfl rfl (by decide) (inC_X1 _) (List.mem_cons_of_mem _ fl_X1_32) dX1_init_50 (cec_putI rfl (by decide) rfl) (fun j hj => cec_pI hj) (fun H locs hP => ?_)
  refine lv_aload_n hx hb dX1_init_53 rfl (lv_at hl 0 rfl) ?_
  refine lv_iconst (v := (-1)) hx hb dX1_init_54 (by decide) ?_
  refine vk_put (k := 7) (ci := 1) S (hF.n 19) hP 14 (show 14 < 19 by decide) rfl (by decide) rfl (by decide) tyX1 tyX1_ok nmX1 rfl rfl rfl (by decide) (inC_X1 _) (List.mem_cons_of_mem _ fl_X1_35) dX1_init_55 (cec_putI rfl (by decide) rfl) (fun j hj => cec_pI hj) (fun H locs hP => ?_)
  refine W.widen (k := 4) (n := 340) (Nat.le_of_ble_eq_true rfl) (Nat.le_of_ble_eq_true rfl) ?_
  exact vk_ret S hP hr hk dX1_init_58
set_option maxRecDepth 100000 in
set_option maxHeartbeats 4000000 in
theorem c_X3_init (l : Launch) (P : Pl) (hA : Up P) (hup : ∀ k, k < 26 → P.2.1 (k + 1) = P.2.1 k + 1) (fl : Nat → Nat → Bool) (w : Wo) (hw : Fr 20 w) : CtC l (Pn P 20) yX3_init cX3_init 1 1 1 11 [.ref (P.2.1 19)] fl w (Pn P 21) (G_X3 fl) (N_X3 w) := by
  unfold N_X3 G_X3
  refine vk_met hA (by decide +kernel) (Nat.le_of_ble_eq_true rfl) (fun p e s m args below meth c ls S hF hP hl hr hk hnm => ?_)
  have hx := S.1
  have hb := S.2.1
  replace hl : lv_has ls 1 [(0, .ref (P.2.1 19))] := hl
  refine lv_aload_n hx hb dX3_init_0 rfl (lv_at hl 0 rfl) ?_
  refine vk_obj S ol_X3 ob_inst ob_code hl.1 dX3_init_1 (Nat.le_of_ble_eq_true rfl) (Nat.le_of_ble_eq_true rfl) ?_
  refine lv_aload_n hx hb dX3_init_4 rfl (lv_at hl 0 rfl) ?_
  refine lv_bipush (v := 11) hx hb dX3_init_5 (by decide) ?_
  refine vk_newa (n := 20) (t := 2) (K := 11) S (hF.n 20) hP rfl rfl rfl rfl (vk_cellC (n := 20) (N := 11) rfl (fun k => ((Fr.mono (m := 20) hw (by decide)) 20 k (Nat.le_refl _)).1)) (fun _ z => z) ac_char (hup _ (by decide)) (by decide) (by decide) (by decide) (Nat.le_of_ble_eq_true rfl) (Nat.le_of_ble_eq_true rfl) dX3_init_7 (fun H hP => ?_)
  refine vk_putF (k := 0) (ci := 3) S (hF.n 21) hP 19 (show 19 < 21 by decide) rfl (by decide) rfl (by decide) tyX3 tyX3_ok nmX3 rfl hnm rfl rfl rfl (by decide) (inC_X3 _) (List.mem_cons_of_mem _ fl_X3_9) dX3_init_9 (cec_putR rfl (by decide) rfl) (fun j hj => cec_upF hj) (fun H locs hP => ?_)
  refine lv_aload_n hx hb dX3_init_12 rfl (lv_at hl 0 rfl) ?_
  refine lv_iconst (v := 0) hx hb dX3_init_13 (by decide) ?_
  refine vk_put (k := 1) (ci := 3) S (hF.n 21) hP 19 (show 19 < 21 by decide) rfl (by decide) rfl (by decide) tyX3 tyX3_ok nmX3 rfl rfl rfl (by decide) (inC_X3 _) (List.mem_cons_of_mem _ fl_X3_15) dX3_init_14 (cec_putI rfl (by decide) rfl) (fun j hj => cec_pI hj) (fun H locs hP => ?_)
  refine W.widen (k := 1) (n := 11) (Nat.le_of_ble_eq_true rfl) (Nat.le_of_ble_eq_true rfl) ?_
  exact vk_ret S hP hr hk dX3_init_17
set_option maxRecDepth 100000 in
set_option maxHeartbeats 4000000 in
theorem c_X4_init (l : Launch) (P : Pl) (hA : Up P) (hup : ∀ k, k < 26 → P.2.1 (k + 1) = P.2.1 k + 1) (fl : Nat → Nat → Bool) (w : Wo) (hw : Fr 22 w) : CtC l (Pn P 22) yX4_init cX4_init 1 1 3 180 [.ref (P.2.1 21)] fl w (Pn P 25) (G_X4 fl) (N_X4 w) := by
  unfold N_X4 G_X4
  refine vk_met hA (by decide +kernel) (Nat.le_of_ble_eq_true rfl) (fun p e s m args below meth c ls S hF hP hl hr hk hnm => ?_)
  have hx := S.1
  have hb := S.2.1
  replace hl : lv_has ls 1 [(0, .ref (P.2.1 21))] := hl
  refine lv_aload_n hx hb dX4_init_0 rfl (lv_at hl 0 rfl) ?_
  refine vk_obj S ol_X4 ob_inst ob_code hl.1 dX4_init_1 (Nat.le_of_ble_eq_true rfl) (Nat.le_of_ble_eq_true rfl) ?_
  refine lv_aload_n hx hb dX4_init_4 rfl (lv_at hl 0 rfl) ?_
  refine lv_bipush (v := 60) hx hb dX4_init_5 (by decide) ?_
  refine vk_newa (n := 22) (t := 0) (K := 60) S (hF.n 22) hP rfl rfl rfl rfl (vk_cellI (n := 22) (N := 60) rfl (fun k => ((Fr.mono (m := 22) hw (by decide)) 22 k (Nat.le_refl _)).1)) (fun _ z => z) ac_int (hup _ (by decide)) (by decide) (by decide) (by decide) (Nat.le_of_ble_eq_true rfl) (Nat.le_of_ble_eq_true rfl) dX4_init_7 (fun H hP => ?_)
  refine vk_putF (k := 0) (ci := 4) S (hF.n 23) hP 21 (show 21 < 23 by decide) rfl (by decide) rfl (by decide) tyX4 tyX4_ok nmX4 rfl hnm rfl rfl rfl (by decide) (inC_X4 _) (List.mem_cons_of_mem _ fl_X4_9) dX4_init_9 (cec_putR rfl (by decide) rfl) (fun j hj => cec_upF hj) (fun H locs hP => ?_)
  refine lv_aload_n hx hb dX4_init_12 rfl (lv_at hl 0 rfl) ?_
  refine lv_bipush (v := 60) hx hb dX4_init_13 (by decide) ?_
  refine vk_newa (n := 23) (t := 0) (K := 60) S (hF.n 23) hP rfl rfl rfl rfl (vk_cellI (n := 23) (N := 60) rfl (fun k => ((Fr.mono (m := 23) hw (by decide)) 23 k (Nat.le_refl _)).1)) (fun _ z => z) ac_int (hup _ (by decide)) (by decide) (by decide) (by decide) (Nat.le_of_ble_eq_true rfl) (Nat.le_of_ble_eq_true rfl) dX4_init_15 (fun H hP => ?_)
  refine vk_putF (k := 1) (ci := 4) S (hF.n 24) hP 21 (show 21 < 24 by decide) rfl (by decide) rfl (by decide) tyX4 tyX4_ok nmX4 rfl hnm rfl rfl rfl (by decide) (inC_X4 _) (List.mem_cons_of_mem _ fl_X4_15) dX4_init_17 (cec_putR rfl (by decide) rfl) (fun j hj => cec_upF hj) (fun H locs hP => ?_)
  refine lv_aload_n hx hb dX4_init_20 rfl (lv_at hl 0 rfl) ?_
  refine lv_bipush (v := 60) hx hb dX4_init_21 (by decide) ?_
  refine vk_newa (n := 24) (t := 0) (K := 60) S (hF.n 24) hP rfl rfl rfl rfl (vk_cellI (n := 24) (N := 60) rfl (fun k => ((Fr.mono (m := 24) hw (by decide)) 24 k (Nat.le_refl _)).1)) (fun _ z => z) ac_int (hup _ (by decide)) (by decide) (by decide) (by decide) (Nat.le_of_ble_eq_true rfl) (Nat.le_of_ble_eq_true rfl) dX4_init_23 (fun H hP => ?_)
  refine vk_putF (k := 2) (ci := 4) S (hF.n 25) hP 21 (show 21 < 25 by decide) rfl (by decide) rfl (by decide) tyX4 tyX4_ok nmX4 rfl hnm rfl rfl rfl (by decide) (inC_X4 _) (List.mem_cons_of_mem _ fl_X4_18) dX4_init_25 (cec_putR rfl (by decide) rfl) (fun j hj => cec_upF hj) (fun H locs hP => ?_)
  refine lv_aload_n hx hb dX4_init_28 rfl (lv_at hl 0 rfl) ?_
  refine lv_null hx hb dX4_init_29 ?_
  refine vk_put (k := 3) (ci := 4) S (hF.n 25) hP 21 (show 21 < 25 by decide) rfl (by decide) rfl (by decide) tyX4 tyX4_ok nmX4 rfl rfl rfl (by decide) (inC_X4 _) (List.mem_cons_of_mem _ fl_X4_21) dX4_init_30 (cec_putN rfl (by decide) rfl) (fun j hj => cec_pI hj) (fun H locs hP => ?_)
  refine lv_aload_n hx hb dX4_init_33 rfl (lv_at hl 0 rfl) ?_
  refine lv_iconst (v := 0) hx hb dX4_init_34 (by decide) ?_
  refine vk_put (k := 4) (ci := 4) S (hF.n 25) hP 21 (show 21 < 25 by decide) rfl (by decide) rfl (by decide) tyX4 tyX4_ok nmX4 rfl rfl rfl (by decide) (inC_X4 _) (List.mem_cons_of_mem _ fl_X4_25) dX4_init_35 (cec_putI rfl (by decide) rfl) (fun j hj => cec_pI hj) (fun H locs hP => ?_)
  refine lv_aload_n hx hb dX4_init_38 rfl (lv_at hl 0 rfl) ?_
  refine lv_iconst (v := 0) hx hb dX4_init_39 (by decide) ?_
  refine vk_put (k := 5) (ci := 4) S (hF.n 25) hP 21 (show 21 < 25 by decide) rfl (by decide) rfl (by decide) tyX4 tyX4_ok nmX4 rfl rfl rfl (by decide) (inC_X4 _) (List.mem_cons_of_mem _ fl_X4_29) dX4_init_40 (cec_putI rfl (by decide) rfl) (fun j hj => cec_pI hj) (fun H locs hP => ?_)
  refine lv_aload_n hx hb dX4_init_43 rfl (lv_at hl 0 rfl) ?_
  refine lv_iconst (v := 0) hx hb dX4_init_44 (by decide) ?_
  refine vk_put (k := 6) (ci := 4) S (hF.n 25) hP 21 (show 21 < 25 by decide) rfl (by decide) rfl (by decide) tyX4 tyX4_ok nmX4 rfl rfl rfl (by decide) (inC_X4 _) (List.mem_cons_of_mem _ fl_X4_32) dX4_init_45 (cec_putI rfl (by decide) rfl) (fun j hj => cec_pI hj) (fun H locs hP => ?_)
  refine W.widen (k := 3) (n := 180) (Nat.le_of_ble_eq_true rfl) (Nat.le_of_ble_eq_true rfl) ?_
  exact vk_ret S hP hr hk dX4_init_48
set_option maxRecDepth 100000 in
set_option maxHeartbeats 4000000 in
theorem c_X2_init (l : Launch) (P : Pl) (hA : Up P) (hup : ∀ k, k < 26 → P.2.1 (k + 1) = P.2.1 k + 1) (fl : Nat → Nat → Bool) (hfl5 : ∀ k, k < 8 → fl 5 k = false) (w : Wo) (hw : Fr 5 w) : CtC l (Pn P 5) yX2_init cX2_init 2 2 9 96 [.ref (P.2.1 4)] fl w (Pn P 14) (G_X2 fl) (N_X2 w) := by
  unfold N_X2 G_X2
  refine vk_met hA (by decide +kernel) (Nat.le_of_ble_eq_true rfl) (fun p e s m args below meth c ls S hF hP hl hr hk hnm => ?_)
  have hx := S.1
  have hb := S.2.1
  replace hl : lv_has ls 2 [(0, .ref (P.2.1 4))] := hl
  refine lv_aload_n hx hb dX2_init_0 rfl (lv_at hl 0 rfl) ?_
  refine vk_obj S ol_X2 ob_inst ob_code hl.1 dX2_init_1 (Nat.le_of_ble_eq_true rfl) (Nat.le_of_ble_eq_true rfl) ?_
  refine lv_aload_n hx hb dX2_init_4 rfl (lv_at hl 0 rfl) ?_
  refine lv_bipush (v := 8) hx hb dX2_init_5 (by decide) ?_
  refine vk_newq (n := 5) (K := 8) S (hF.n 5) hP rfl rfl hfl5 kl_X2_9 (hup _ (by decide)) (by decide) (by decide) (by decide) (Nat.le_of_ble_eq_true rfl) (Nat.le_of_ble_eq_true rfl) dX2_init_7 (fun H hP => ?_)
  refine vk_putF (k := 0) (ci := 2) S (hF.n 6) hP 4 (show 4 < 6 by decide) rfl (by decide) rfl (by decide) tyX2 tyX2_ok nmX2 rfl hnm rfl rfl rfl (by decide) (inC_X2 _) (List.mem_cons_of_mem _ fl_X2_11) dX2_init_10 (cec_putR rfl (by decide) rfl) (fun j hj => cec_upF hj) (fun H locs hP => ?_)
  refine lv_aload_n hx hb dX2_init_13 rfl (lv_at hl 0 rfl) ?_
  refine lv_iconst (v := 0) hx hb dX2_init_14 (by decide) ?_
  refine vk_put (k := 1) (ci := 2) S (hF.n 6) hP 4 (show 4 < 6 by decide) rfl (by decide) rfl (by decide) tyX2 tyX2_ok nmX2 rfl rfl rfl (by decide) (inC_X2 _) (List.mem_cons_of_mem _ fl_X2_17) dX2_init_15 (cec_putI rfl (by decide) rfl) (fun j hj => cec_pI hj) (fun H locs hP => ?_)
  refine lv_aload_n hx hb dX2_init_18 rfl (lv_at hl 0 rfl) ?_
  refine lv_iconst (v := 0) hx hb dX2_init_19 (by decide) ?_
  refine vk_put (k := 2) (ci := 2) S (hF.n 6) hP 4 (show 4 < 6 by decide) rfl (by decide) rfl (by decide) tyX2 tyX2_ok nmX2 rfl rfl rfl (by decide) (inC_X2 _) (List.mem_cons_of_mem _ fl_X2_21) dX2_init_20 (cec_putI rfl (by decide) rfl) (fun j hj => cec_pI hj) (fun H locs hP => ?_)
  refine lv_iconst (v := 0) hx hb dX2_init_23 (by decide) ?_
  refine lv_istore_n (lv' := [(1, .int 0), (0, .ref (P.2.1 4))]) hx hb dX2_init_24 rfl hl (by decide) rfl (fun ls hl => ?_)
  refine lv_iload_n hx hb dX2_init_25 rfl (lv_at hl 0 rfl) ?_
  refine lv_aload_n hx hb dX2_init_26 rfl (lv_at hl 1 rfl) ?_
  refine vk_getR (r := 5) S (hF.n 6) hP (k := 0) (ci := 2) 4 (show 4 < 6 by decide) rfl (by decide) rfl (by decide) rfl rfl rfl (inC_X2 _) (List.mem_cons_of_mem _ fl_X2_11) dX2_init_27 ?_
  refine vk_alen (n := 8) (v := 8) S (hF.n 6) hP (show 5 < 6 by decide) rfl rfl dX2_init_30 ?_
  refine lv_icmp_ge (tgt := 53) hx hb dX2_init_31 (by decide) (fun c9 => absurd c9 (by decide)) (fun _ => ?_)
  refine lv_aload_n hx hb dX2_init_34 rfl (lv_at hl 1 rfl) ?_
  refine vk_getR (r := 5) S (hF.n 6) hP (k := 0) (ci := 2) 4 (show 4 < 6 by decide) rfl (by decide) rfl (by decide) rfl rfl rfl (inC_X2 _) (List.mem_cons_of_mem _ fl_X2_11) dX2_init_35 ?_
  refine lv_iload_n hx hb dX2_init_38 rfl (lv_at hl 0 rfl) ?_
  refine vk_new (n := 6) S (hF.n 6) hP rfl rfl (by decide) rfl (inC_X0 _) tyX0 tyX0_ok df_X0 (fun k => ⟨((((Fr.mono (m := 6) hw (by decide)).pI (by decide)).pI (by decide)) 6 k (Nat.le_refl _)).1, ((((Fr.mono (m := 6) hw (by decide)).pI (by decide)).pI (by decide)) 6 k (Nat.le_refl _)).2.1⟩) rfl kl_X2_9 in_X0 ii_X0 (hup _ (by decide)) (Nat.le_of_ble_eq_true rfl) (Nat.le_of_ble_eq_true rfl) dX2_init_39 (fun H hP => ?_)
  refine lv_dup hx hb dX2_init_42 rfl ?_
  refine vk_initN (host := RX5) S (hF.n 7) hP (c_X0_init l (Pn P 7) hA 6 rfl (show 6 < 7 by decide) _ _) ok_X0_init (by decide +kernel) rfl ⟨Nat.le_of_ble_eq_true rfl, Nat.le_of_ble_eq_true rfl⟩ hl.1 (Nat.le_of_ble_eq_true rfl) dX2_init_43 ⟨Nat.le_of_ble_eq_true rfl, Nat.le_of_ble_eq_true rfl⟩ (fun H locs hP => ?_)
  refine vk_aast (K := 8) (j := 0) (by decide) S (hF.n 7) hP (show 5 < 7 by decide) rfl (by decide) rfl (show 6 < 7 by decide) rfl dX2_init_46 (fun H locs hP => ?_)
  refine lv_iinc (v := 1) (lv' := [(1, .int 1), (0, .ref (P.2.1 4))]) hx hb dX2_init_47 hl (k := 0) rfl rfl (by decide) rfl (fun ls hl => ?_)
  refine lv_goto (tgt := 25) hx hb dX2_init_50 (by decide) ?_
  refine lv_iload_n hx hb dX2_init_25 rfl (lv_at hl 0 rfl) ?_
  refine lv_aload_n hx hb dX2_init_26 rfl (lv_at hl 1 rfl) ?_
  refine vk_getR (r := 5) S (hF.n 7) hP (k := 0) (ci := 2) 4 (show 4 < 7 by decide) rfl (by decide) rfl (by decide) rfl rfl rfl (inC_X2 _) (List.mem_cons_of_mem _ fl_X2_11) dX2_init_27 ?_
  refine vk_alen (n := 8) (v := 8) S (hF.n 7) hP (show 5 < 7 by decide) rfl rfl dX2_init_30 ?_
  refine lv_icmp_ge (tgt := 53) hx hb dX2_init_31 (by decide) (fun c9 => absurd c9 (by decide)) (fun _ => ?_)
  refine lv_aload_n hx hb dX2_init_34 rfl (lv_at hl 1 rfl) ?_
  refine vk_getR (r := 5) S (hF.n 7) hP (k := 0) (ci := 2) 4 (show 4 < 7 by decide) rfl (by decide) rfl (by decide) rfl rfl rfl (inC_X2 _) (List.mem_cons_of_mem _ fl_X2_11) dX2_init_35 ?_
  refine lv_iload_n hx hb dX2_init_38 rfl (lv_at hl 0 rfl) ?_
  refine vk_new (n := 7) S (hF.n 7) hP rfl rfl (by decide) rfl (inC_X0 _) tyX0 tyX0_ok df_X0 (fun k => ⟨((fr_X0 6 (by decide) (((Fr.mono (m := 7) hw (by decide)).pI (by decide)).pI (by decide))) 7 k (Nat.le_refl _)).1, ((fr_X0 6 (by decide) (((Fr.mono (m := 7) hw (by decide)).pI (by decide)).pI (by decide))) 7 k (Nat.le_refl _)).2.1⟩) rfl kl_X2_9 in_X0 ii_X0 (hup _ (by decide)) (Nat.le_of_ble_eq_true rfl) (Nat.le_of_ble_eq_true rfl) dX2_init_39 (fun H hP => ?_)
  refine lv_dup hx hb dX2_init_42 rfl ?_
  refine vk_initN (host := RX5) S (hF.n 8) hP (c_X0_init l (Pn P 8) hA 7 rfl (show 7 < 8 by decide) _ _) ok_X0_init (by decide +kernel) rfl ⟨Nat.le_of_ble_eq_true rfl, Nat.le_of_ble_eq_true rfl⟩ hl.1 (Nat.le_of_ble_eq_true rfl) dX2_init_43 ⟨Nat.le_of_ble_eq_true rfl, Nat.le_of_ble_eq_true rfl⟩ (fun H locs hP => ?_)
  refine vk_aast (K := 8) (j := 1) (by decide) S (hF.n 8) hP (show 5 < 8 by decide) rfl (by decide) rfl (show 7 < 8 by decide) rfl dX2_init_46 (fun H locs hP => ?_)
  refine lv_iinc (v := 2) (lv' := [(1, .int 2), (0, .ref (P.2.1 4))]) hx hb dX2_init_47 hl (k := 0) rfl rfl (by decide) rfl (fun ls hl => ?_)
  refine lv_goto (tgt := 25) hx hb dX2_init_50 (by decide) ?_
  refine lv_iload_n hx hb dX2_init_25 rfl (lv_at hl 0 rfl) ?_
  refine lv_aload_n hx hb dX2_init_26 rfl (lv_at hl 1 rfl) ?_
  refine vk_getR (r := 5) S (hF.n 8) hP (k := 0) (ci := 2) 4 (show 4 < 8 by decide) rfl (by decide) rfl (by decide) rfl rfl rfl (inC_X2 _) (List.mem_cons_of_mem _ fl_X2_11) dX2_init_27 ?_
  refine vk_alen (n := 8) (v := 8) S (hF.n 8) hP (show 5 < 8 by decide) rfl rfl dX2_init_30 ?_
  refine lv_icmp_ge (tgt := 53) hx hb dX2_init_31 (by decide) (fun c9 => absurd c9 (by decide)) (fun _ => ?_)
  refine lv_aload_n hx hb dX2_init_34 rfl (lv_at hl 1 rfl) ?_
  refine vk_getR (r := 5) S (hF.n 8) hP (k := 0) (ci := 2) 4 (show 4 < 8 by decide) rfl (by decide) rfl (by decide) rfl rfl rfl (inC_X2 _) (List.mem_cons_of_mem _ fl_X2_11) dX2_init_35 ?_
  refine lv_iload_n hx hb dX2_init_38 rfl (lv_at hl 0 rfl) ?_
  refine vk_new (n := 8) S (hF.n 8) hP rfl rfl (by decide) rfl (inC_X0 _) tyX0 tyX0_ok df_X0 (fun k => ⟨((fr_X0 7 (by decide) (fr_X0 6 (by decide) (((Fr.mono (m := 8) hw (by decide)).pI (by decide)).pI (by decide)))) 8 k (Nat.le_refl _)).1, ((fr_X0 7 (by decide) (fr_X0 6 (by decide) (((Fr.mono (m := 8) hw (by decide)).pI (by decide)).pI (by decide)))) 8 k (Nat.le_refl _)).2.1⟩) rfl kl_X2_9 in_X0 ii_X0 (hup _ (by decide)) (Nat.le_of_ble_eq_true rfl) (Nat.le_of_ble_eq_true rfl) dX2_init_39 (fun H hP => ?_)
  refine lv_dup hx hb dX2_init_42 rfl ?_
  refine vk_initN (host := RX5) S (hF.n 9) hP (c_X0_init l (Pn P 9) hA 8 rfl (show 8 < 9 by decide) _ _) ok_X0_init (by decide +kernel) rfl ⟨Nat.le_of_ble_eq_true rfl, Nat.le_of_ble_eq_true rfl⟩ hl.1 (Nat.le_of_ble_eq_true rfl) dX2_init_43 ⟨Nat.le_of_ble_eq_true rfl, Nat.le_of_ble_eq_true rfl⟩ (fun H locs hP => ?_)
  refine vk_aast (K := 8) (j := 2) (by decide) S (hF.n 9) hP (show 5 < 9 by decide) rfl (by decide) rfl (show 8 < 9 by decide) rfl dX2_init_46 (fun H locs hP => ?_)
  refine lv_iinc (v := 3) (lv' := [(1, .int 3), (0, .ref (P.2.1 4))]) hx hb dX2_init_47 hl (k := 0) rfl rfl (by decide) rfl (fun ls hl => ?_)
  refine lv_goto (tgt := 25) hx hb dX2_init_50 (by decide) ?_
  refine lv_iload_n hx hb dX2_init_25 rfl (lv_at hl 0 rfl) ?_
  refine lv_aload_n hx hb dX2_init_26 rfl (lv_at hl 1 rfl) ?_
  refine vk_getR (r := 5) S (hF.n 9) hP (k := 0) (ci := 2) 4 (show 4 < 9 by decide) rfl (by decide) rfl (by decide) rfl rfl rfl (inC_X2 _) (List.mem_cons_of_mem _ fl_X2_11) dX2_init_27 ?_
  refine vk_alen (n := 8) (v := 8) S (hF.n 9) hP (show 5 < 9 by decide) rfl rfl dX2_init_30 ?_
  refine lv_icmp_ge (tgt := 53) hx hb dX2_init_31 (by decide) (fun c9 => absurd c9 (by decide)) (fun _ => ?_)
  refine lv_aload_n hx hb dX2_init_34 rfl (lv_at hl 1 rfl) ?_
  refine vk_getR (r := 5) S (hF.n 9) hP (k := 0) (ci := 2) 4 (show 4 < 9 by decide) rfl (by decide) rfl (by decide) rfl rfl rfl (inC_X2 _) (List.mem_cons_of_mem _ fl_X2_11) dX2_init_35 ?_
  refine lv_iload_n hx hb dX2_init_38 rfl (lv_at hl 0 rfl) ?_
  refine vk_new (n := 9) S (hF.n 9) hP rfl rfl (by decide) rfl (inC_X0 _) tyX0 tyX0_ok df_X0 (fun k => ⟨((fr_X0 8 (by decide) (fr_X0 7 (by decide) (fr_X0 6 (by decide) (((Fr.mono (m := 9) hw (by decide)).pI (by decide)).pI (by decide))))) 9 k (Nat.le_refl _)).1, ((fr_X0 8 (by decide) (fr_X0 7 (by decide) (fr_X0 6 (by decide) (((Fr.mono (m := 9) hw (by decide)).pI (by decide)).pI (by decide))))) 9 k (Nat.le_refl _)).2.1⟩) rfl kl_X2_9 in_X0 ii_X0 (hup _ (by decide)) (Nat.le_of_ble_eq_true rfl) (Nat.le_of_ble_eq_true rfl) dX2_init_39 (fun H hP => ?_)
  refine lv_dup hx hb dX2_init_42 rfl ?_
  refine vk_initN (host := RX5) S (hF.n 10) hP (c_X0_init l (Pn P 10) hA 9 rfl (show 9 < 10 by decide) _ _) ok_X0_init (by decide +kernel) rfl ⟨Nat.le_of_ble_eq_true rfl, Nat.le_of_ble_eq_true rfl⟩ hl.1 (Nat.le_of_ble_eq_true rfl) dX2_init_43 ⟨Nat.le_of_ble_eq_true rfl, Nat.le_of_ble_eq_true rfl⟩ (fun H locs hP => ?_)
  refine vk_aast (K := 8) (j := 3) (by decide) S (hF.n 10) hP (show 5 < 10 by decide) rfl (by decide) rfl (show 9 < 10 by decide) rfl dX2_init_46 (fun H locs hP => ?_)
  refine lv_iinc (v := 4) (lv' := [(1, .int 4), (0, .ref (P.2.1 4))]) hx hb dX2_init_47 hl (k := 0) rfl rfl (by decide) rfl (fun ls hl => ?_)
  refine lv_goto (tgt := 25) hx hb dX2_init_50 (by decide) ?_
  refine lv_iload_n hx hb dX2_init_25 rfl (lv_at hl 0 rfl) ?_
  refine lv_aload_n hx hb dX2_init_26 rfl (lv_at hl 1 rfl) ?_
  refine vk_getR (r := 5) S (hF.n 10) hP (k := 0) (ci := 2) 4 (show 4 < 10 by decide) rfl (by decide) rfl (by decide) rfl rfl rfl (inC_X2 _) (List.mem_cons_of_mem _ fl_X2_11) dX2_init_27 ?_
  refine vk_alen (n := 8) (v := 8) S (hF.n 10) hP (show 5 < 10 by decide) rfl rfl dX2_init_30 ?_
  refine lv_icmp_ge (tgt := 53) hx hb dX2_init_31 (by decide) (fun c9 => absurd c9 (by decide)) (fun _ => ?_)
  refine lv_aload_n hx hb dX2_init_34 rfl (lv_at hl 1 rfl) ?_
  refine vk_getR (r := 5) S (hF.n 10) hP (k := 0) (ci := 2) 4 (show 4 < 10 by decide) rfl (by decide) rfl (by decide) rfl rfl rfl (inC_X2 _) (List.mem_cons_of_mem _ fl_X2_11) dX2_init_35 ?_
  refine lv_iload_n hx hb dX2_init_38 rfl (lv_at hl 0 rfl) ?_
  refine vk_new (n := 10) S (hF.n 10) hP rfl rfl (by decide) rfl (inC_X0 _) tyX0 tyX0_ok df_X0 (fun k => ⟨((fr_X0 9 (by decide) (fr_X0 8 (by decide) (fr_X0 7 (by decide) (fr_X0 6 (by decide) (((Fr.mono (m := 10) hw (by decide)).pI (by decide)).pI (by decide)))))) 10 k (Nat.le_refl _)).1, ((fr_X0 9 (by decide) (fr_X0 8 (by decide) (fr_X0 7 (by decide) (fr_X0 6 (by decide) (((Fr.mono (m := 10) hw (by decide)).pI (by decide)).pI (by decide)))))) 10 k (Nat.le_refl _)).2.1⟩) rfl kl_X2_9 in_X0 ii_X0 (hup _ (by decide)) (Nat.le_of_ble_eq_true rfl) (Nat.le_of_ble_eq_true rfl) dX2_init_39 (fun H hP => ?_)
  refine lv_dup hx hb dX2_init_42 rfl ?_
  refine vk_initN (host := RX5) S (hF.n 11) hP (c_X0_init l (Pn P 11) hA 10 rfl (show 10 < 11 by decide) _ _) ok_X0_init (by decide +kernel) rfl ⟨Nat.le_of_ble_eq_true rfl, Nat.le_of_ble_eq_true rfl⟩ hl.1 (Nat.le_of_ble_eq_true rfl) dX2_init_43 ⟨Nat.le_of_ble_eq_true rfl, Nat.le_of_ble_eq_true rfl⟩ (fun H locs hP => ?_)
  refine vk_aast (K := 8) (j := 4) (by decide) S (hF.n 11) hP (show 5 < 11 by decide) rfl (by decide) rfl (show 10 < 11 by decide) rfl dX2_init_46 (fun H locs hP => ?_)
  refine lv_iinc (v := 5) (lv' := [(1, .int 5), (0, .ref (P.2.1 4))]) hx hb dX2_init_47 hl (k := 0) rfl rfl (by decide) rfl (fun ls hl => ?_)
  refine lv_goto (tgt := 25) hx hb dX2_init_50 (by decide) ?_
  refine lv_iload_n hx hb dX2_init_25 rfl (lv_at hl 0 rfl) ?_
  refine lv_aload_n hx hb dX2_init_26 rfl (lv_at hl 1 rfl) ?_
  refine vk_getR (r := 5) S (hF.n 11) hP (k := 0) (ci := 2) 4 (show 4 < 11 by decide) rfl (by decide) rfl (by decide) rfl rfl rfl (inC_X2 _) (List.mem_cons_of_mem _ fl_X2_11) dX2_init_27 ?_
  refine vk_alen (n := 8) (v := 8) S (hF.n 11) hP (show 5 < 11 by decide) rfl rfl dX2_init_30 ?_
  refine lv_icmp_ge (tgt := 53) hx hb dX2_init_31 (by decide) (fun c9 => absurd c9 (by decide)) (fun _ => ?_)
  refine lv_aload_n hx hb dX2_init_34 rfl (lv_at hl 1 rfl) ?_
  refine vk_getR (r := 5) S (hF.n 11) hP (k := 0) (ci := 2) 4 (show 4 < 11 by decide) rfl (by decide) rfl (by decide) rfl rfl rfl (inC_X2 _) (List.mem_cons_of_mem _ fl_X2_11) dX2_init_35 ?_
  refine lv_iload_n hx hb dX2_init_38 rfl (lv_at hl 0 rfl) ?_
  refine vk_new (n := 11) S (hF.n 11) hP rfl rfl (by decide) rfl (inC_X0 _) tyX0 tyX0_ok df_X0 (fun k => ⟨((fr_X0 10 (by decide) (fr_X0 9 (by decide) (fr_X0 8 (by decide) (fr_X0 7 (by decide) (fr_X0 6 (by decide) (((Fr.mono (m := 11) hw (by decide)).pI (by decide)).pI (by decide))))))) 11 k (Nat.le_refl _)).1, ((fr_X0 10 (by decide) (fr_X0 9 (by decide) (fr_X0 8 (by decide) (fr_X0 7 (by decide) (fr_X0 6 (by decide) (((Fr.mono (m := 11) hw (by decide)).pI (by decide)).pI (by decide))))))) 11 k (Nat.le_refl _)).2.1⟩) rfl kl_X2_9 in_X0 ii_X0 (hup _ (by decide)) (Nat.le_of_ble_eq_true rfl) (Nat.le_of_ble_eq_true rfl) dX2_init_39 (fun H hP => ?_)
  refine lv_dup hx hb dX2_init_42 rfl ?_
  refine vk_initN (host := RX5) S (hF.n 12) hP (c_X0_init l (Pn P 12) hA 11 rfl (show 11 < 12 by decide) _ _) ok_X0_init (by decide +kernel) rfl ⟨Nat.le_of_ble_eq_true rfl, Nat.le_of_ble_eq_true rfl⟩ hl.1 (Nat.le_of_ble_eq_true rfl) dX2_init_43 ⟨Nat.le_of_ble_eq_true rfl, Nat.le_of_ble_eq_true rfl⟩ (fun H locs hP => ?_)
  refine vk_aast (K := 8) (j := 5) (by decide) S (hF.n 12) hP (show 5 < 12 by decide) rfl (by decide) rfl (show 11 < 12 by decide) rfl dX2_init_46 (fun H locs hP => ?_)
  refine lv_iinc (v := 6) (lv' := [(1, .int 6), (0, .ref (P.2.1 4))]) hx hb dX2_init_47 hl (k := 0) rfl rfl (by decide) rfl (fun ls hl => ?_)
  refine lv_goto (tgt := 25) hx hb dX2_init_50 (by decide) ?_
  refine lv_iload_n hx hb dX2_init_25 rfl (lv_at hl 0 rfl) ?_
  refine lv_aload_n hx hb dX2_init_26 rfl (lv_at hl 1 rfl) ?_
  refine vk_getR (r := 5) S (hF.n 12) hP (k := 0) (ci := 2) 4 (show 4 < 12 by decide) rfl (by decide) rfl (by decide) rfl rfl rfl (inC_X2 _) (List.mem_cons_of_mem _ fl_X2_11) dX2_init_27 ?_
  refine vk_alen (n := 8) (v := 8) S (hF.n 12) hP (show 5 < 12 by decide) rfl rfl dX2_init_30 ?_
  refine lv_icmp_ge (tgt := 53) hx hb dX2_init_31 (by decide) (fun c9 => absurd c9 (by decide)) (fun _ => ?_)
  refine lv_aload_n hx hb dX2_init_34 rfl (lv_at hl 1 rfl) ?_
  refine vk_getR (r := 5) S (hF.n 12) hP (k := 0) (ci := 2) 4 (show 4 < 12 by decide) rfl (by decide) rfl (by decide) rfl rfl rfl (inC_X2 _) (List.mem_cons_of_mem _ fl_X2_11) dX2_init_35 ?_
  refine lv_iload_n hx hb dX2_init_38 rfl (lv_at hl 0 rfl) ?_
  refine vk_new (n := 12) S (hF.n 12) hP rfl rfl (by decide) rfl (inC_X0 _) tyX0 tyX0_ok df_X0 (fun k => ⟨((fr_X0 11 (by decide) (fr_X0 10 (by decide) (fr_X0 9 (by decide) (fr_X0 8 (by decide) (fr_X0 7 (by decide) (fr_X0 6 (by decide) (((Fr.mono (m := 12) hw (by decide)).pI (by decide)).pI (by decide)))))))) 12 k (Nat.le_refl _)).1, ((fr_X0 11 (by decide) (fr_X0 10 (by decide) (fr_X0 9 (by decide) (fr_X0 8 (by decide) (fr_X0 7 (by decide) (fr_X0 6 (by decide) (((Fr.mono (m := 12) hw (by decide)).pI (by decide)).pI (by decide)))))))) 12 k (Nat.le_refl _)).2.1⟩) rfl kl_X2_9 in_X0 ii_X0 (hup _ (by decide)) (Nat.le_of_ble_eq_true rfl) (Nat.le_of_ble_eq_true rfl) dX2_init_39 (fun H hP => ?_)
  refine lv_dup hx hb dX2_init_42 rfl ?_
  refine vk_initN (host := RX5) S (hF.n 13) hP (c_X0_init l (Pn P 13) hA 12 rfl (show 12 < 13 by decide) _ _) ok_X0_init (by decide +kernel) rfl ⟨Nat.le_of_ble_eq_true rfl, Nat.le_of_ble_eq_true rfl⟩ hl.1 (Nat.le_of_ble_eq_true rfl) dX2_init_43 ⟨Nat.le_of_ble_eq_true rfl, Nat.le_of_ble_eq_true rfl⟩ (fun H locs hP => ?_)
  refine vk_aast (K := 8) (j := 6) (by decide) S (hF.n 13) hP (show 5 < 13 by decide) rfl (by decide) rfl (show 12 < 13 by decide) rfl dX2_init_46 (fun H locs hP => ?_)
  refine lv_iinc (v := 7) (lv' := [(1, .int 7), (0, .ref (P.2.1 4))]) hx hb dX2_init_47 hl (k := 0) rfl rfl (by decide) rfl (fun ls hl => ?_)
  refine lv_goto (tgt := 25) hx hb dX2_init_50 (by decide) ?_
  refine lv_iload_n hx hb dX2_init_25 rfl (lv_at hl 0 rfl) ?_
  refine lv_aload_n hx hb dX2_init_26 rfl (lv_at hl 1 rfl) ?_
  refine vk_getR (r := 5) S (hF.n 13) hP (k := 0) (ci := 2) 4 (show 4 < 13 by decide) rfl (by decide) rfl (by decide) rfl rfl rfl (inC_X2 _) (List.mem_cons_of_mem _ fl_X2_11) dX2_init_27 ?_
  refine vk_alen (n := 8) (v := 8) S (hF.n 13) hP (show 5 < 13 by decide) rfl rfl dX2_init_30 ?_
  refine lv_icmp_ge (tgt := 53) hx hb dX2_init_31 (by decide) (fun c9 => absurd c9 (by decide)) (fun _ => ?_)
  refine lv_aload_n hx hb dX2_init_34 rfl (lv_at hl 1 rfl) ?_
  refine vk_getR (r := 5) S (hF.n 13) hP (k := 0) (ci := 2) 4 (show 4 < 13 by decide) rfl (by decide) rfl (by decide) rfl rfl rfl (inC_X2 _) (List.mem_cons_of_mem _ fl_X2_11) dX2_init_35 ?_
  refine lv_iload_n hx hb dX2_init_38 rfl (lv_at hl 0 rfl) ?_
  refine vk_new (n := 13) S (hF.n 13) hP rfl rfl (by decide) rfl (inC_X0 _) tyX0 tyX0_ok df_X0 (fun k => ⟨((fr_X0 12 (by decide) (fr_X0 11 (by decide) (fr_X0 10 (by decide) (fr_X0 9 (by decide) (fr_X0 8 (by decide) (fr_X0 7 (by decide) (fr_X0 6 (by decide) (((Fr.mono (m := 13) hw (by decide)).pI (by decide)).pI (by decide))))))))) 13 k (Nat.le_refl _)).1, ((fr_X0 12 (by decide) (fr_X0 11 (by decide) (fr_X0 10 (by decide) (fr_X0 9 (by decide) (fr_X0 8 (by decide) (fr_X0 7 (by decide) (fr_X0 6 (by decide) (((Fr.mono (m := 13) hw (by decide)).pI (by decide)).pI (by decide))))))))) 13 k (Nat.le_refl _)).2.1⟩) rfl kl_X2_9 in_X0 ii_X0 (hup _ (by decide)) (Nat.le_of_ble_eq_true rfl) (Nat.le_of_ble_eq_true rfl) dX2_init_39 (fun H hP => ?_)
  refine lv_dup hx hb dX2_init_42 rfl ?_
  refine vk_initN (host := RX5) S (hF.n 14) hP (c_X0_init l (Pn P 14) hA 13 rfl (show 13 < 14 by decide) _ _) ok_X0_init (by decide +kernel) rfl ⟨Nat.le_of_ble_eq_true rfl, Nat.le_of_ble_eq_true rfl⟩ hl.1 (Nat.le_of_ble_eq_true rfl) dX2_init_43 ⟨Nat.le_of_ble_eq_true rfl, Nat.le_of_ble_eq_true rfl⟩ (fun H locs hP => ?_)
  refine vk_aast (K := 8) (j := 7) (by decide) S (hF.n 14) hP (show 5 < 14 by decide) rfl (by decide) rfl (show 13 < 14 by decide) rfl dX2_init_46 (fun H locs hP => ?_)
  refine lv_iinc (v := 8) (lv' := [(1, .int 8), (0, .ref (P.2.1 4))]) hx hb dX2_init_47 hl (k := 0) rfl rfl (by decide) rfl (fun ls hl => ?_)
  refine lv_goto (tgt := 25) hx hb dX2_init_50 (by decide) ?_
  refine lv_iload_n hx hb dX2_init_25 rfl (lv_at hl 0 rfl) ?_
  refine lv_aload_n hx hb dX2_init_26 rfl (lv_at hl 1 rfl) ?_
  refine vk_getR (r := 5) S (hF.n 14) hP (k := 0) (ci := 2) 4 (show 4 < 14 by decide) rfl (by decide) rfl (by decide) rfl rfl rfl (inC_X2 _) (List.mem_cons_of_mem _ fl_X2_11) dX2_init_27 ?_
  refine vk_alen (n := 8) (v := 8) S (hF.n 14) hP (show 5 < 14 by decide) rfl rfl dX2_init_30 ?_
  refine lv_icmp_ge (tgt := 53) hx hb dX2_init_31 (by decide) (fun _ => ?_) (fun c9 => absurd (by decide) c9)
  refine W.widen (k := 9) (n := 96) (Nat.le_of_ble_eq_true rfl) (Nat.le_of_ble_eq_true rfl) ?_
  exact vk_ret S hP hr hk dX2_init_53
set_option maxRecDepth 100000 in
set_option maxHeartbeats 4000000 in
theorem c_X5_init (l : Launch) (P : Pl) (hA : Up P) (hup : ∀ k, k < 26 → P.2.1 (k + 1) = P.2.1 k + 1) {w : Wo} (h : F_X0_lay N_X5 3 3 = some w) : Met l yX5_init (wsU yX5_init cX5_init 1 none) (rmU 3 25 740) (va_Pc [.ref (P.2.1 0)] (WpC (Pn P 1) fl0 w0)) (va_Qv (fun (u : Wo) => u = w) (Wq (Pn P 26)) (Ab P.2.2.2.2.1)) 25 740 (Ab P.2.2.2.2.1) := by
  refine vk_met hA (by decide +kernel) (Nat.le_of_ble_eq_true rfl) (fun p e s m args below meth c ls S hF hP hl hr hk hnm => ?_)
  have hx := S.1
  have hb := S.2.1
  replace hl : lv_has ls 1 [(0, .ref (P.2.1 0))] := hl
  refine lv_aload_n hx hb dX5_init_0 rfl (lv_at hl 0 rfl) ?_
  refine vk_obj S ol_X5 ob_inst ob_code hl.1 dX5_init_1 (Nat.le_of_ble_eq_true rfl) (Nat.le_of_ble_eq_true rfl) ?_
  refine lv_aload_n hx hb dX5_init_4 rfl (lv_at hl 0 rfl) ?_
  refine vk_new (n := 1) S (hF.n 1) hP rfl rfl (by decide) rfl (inC_X0 _) tyX0 tyX0_ok df_X0 (fun k => ⟨((Fr.w0 (n := 1)) 1 k (Nat.le_refl _)).1, ((Fr.w0 (n := 1)) 1 k (Nat.le_refl _)).2.1⟩) rfl kl_X5_9 in_X0 ii_X0 (hup _ (by decide)) (Nat.le_of_ble_eq_true rfl) (Nat.le_of_ble_eq_true rfl) dX5_init_5 (fun H hP => ?_)
  refine lv_dup hx hb dX5_init_8 rfl ?_
  refine vk_initN (host := RX5) S (hF.n 2) hP (c_X0_init l (Pn P 2) hA 1 rfl (show 1 < 2 by decide) _ _) ok_X0_init (by decide +kernel) rfl ⟨Nat.le_of_ble_eq_true rfl, Nat.le_of_ble_eq_true rfl⟩ hl.1 (Nat.le_of_ble_eq_true rfl) dX5_init_9 ⟨Nat.le_of_ble_eq_true rfl, Nat.le_of_ble_eq_true rfl⟩ (fun H locs hP => ?_)
  refine vk_putF (k := 0) (ci := 5) S (hF.n 2) hP 0 (show 0 < 2 by decide) rfl (by decide) rfl (by decide) tyX5 tyX5_ok nmX5 rfl hnm rfl rfl rfl (by decide) (inC_X5 _) (List.mem_cons_of_mem _ fl_X5_12) dX5_init_12 (cec_putR rfl (by decide) rfl) (fun j hj => cec_upF hj) (fun H locs hP => ?_)
  refine lv_aload_n hx hb dX5_init_15 rfl (lv_at hl 0 rfl) ?_
  refine vk_new (n := 2) S (hF.n 2) hP rfl rfl (by decide) rfl (inC_X0 _) tyX0 tyX0_ok df_X0 (fun k => ⟨((fr_X0 1 (by decide) (Fr.w0 (n := 2))) 2 k (Nat.le_refl _)).1, ((fr_X0 1 (by decide) (Fr.w0 (n := 2))) 2 k (Nat.le_refl _)).2.1⟩) rfl kl_X5_9 in_X0 ii_X0 (hup _ (by decide)) (Nat.le_of_ble_eq_true rfl) (Nat.le_of_ble_eq_true rfl) dX5_init_16 (fun H hP => ?_)
  refine lv_dup hx hb dX5_init_19 rfl ?_
  refine vk_initN (host := RX5) S (hF.n 3) hP (c_X0_init l (Pn P 3) hA 2 rfl (show 2 < 3 by decide) _ _) ok_X0_init (by decide +kernel) rfl ⟨Nat.le_of_ble_eq_true rfl, Nat.le_of_ble_eq_true rfl⟩ hl.1 (Nat.le_of_ble_eq_true rfl) dX5_init_20 ⟨Nat.le_of_ble_eq_true rfl, Nat.le_of_ble_eq_true rfl⟩ (fun H locs hP => ?_)
  refine vk_putF (k := 1) (ci := 5) S (hF.n 3) hP 0 (show 0 < 3 by decide) rfl (by decide) rfl (by decide) tyX5 tyX5_ok nmX5 rfl hnm rfl rfl rfl (by decide) (inC_X5 _) (List.mem_cons_of_mem _ fl_X5_16) dX5_init_23 (cec_putR rfl (by decide) rfl) (fun j hj => cec_upF hj) (fun H locs hP => ?_)
  refine lv_aload_n hx hb dX5_init_26 rfl (lv_at hl 0 rfl) ?_
  refine vk_new (n := 3) S (hF.n 3) hP rfl rfl (by decide) rfl (inC_X0 _) tyX0 tyX0_ok df_X0 (fun k => ⟨((fr_X0 2 (by decide) (fr_X0 1 (by decide) (Fr.w0 (n := 3)))) 3 k (Nat.le_refl _)).1, ((fr_X0 2 (by decide) (fr_X0 1 (by decide) (Fr.w0 (n := 3)))) 3 k (Nat.le_refl _)).2.1⟩) rfl kl_X5_9 in_X0 ii_X0 (hup _ (by decide)) (Nat.le_of_ble_eq_true rfl) (Nat.le_of_ble_eq_true rfl) dX5_init_27 (fun H hP => ?_)
  refine lv_dup hx hb dX5_init_30 rfl ?_
  refine vk_initN (host := RX5) S (hF.n 4) hP (c_X0_init l (Pn P 4) hA 3 rfl (show 3 < 4 by decide) _ _) ok_X0_init (by decide +kernel) rfl ⟨Nat.le_of_ble_eq_true rfl, Nat.le_of_ble_eq_true rfl⟩ hl.1 (Nat.le_of_ble_eq_true rfl) dX5_init_31 ⟨Nat.le_of_ble_eq_true rfl, Nat.le_of_ble_eq_true rfl⟩ (fun H locs hP => ?_)
  refine vk_putF (k := 2) (ci := 5) S (hF.n 4) hP 0 (show 0 < 4 by decide) rfl (by decide) rfl (by decide) tyX5 tyX5_ok nmX5 rfl hnm rfl rfl rfl (by decide) (inC_X5 _) (List.mem_cons_of_mem _ fl_X5_19) dX5_init_34 (cec_putR rfl (by decide) rfl) (fun j hj => cec_upF hj) (fun H locs hP => ?_)
  refine lv_aload_n hx hb dX5_init_37 rfl (lv_at hl 0 rfl) ?_
  refine vk_new (n := 4) S (hF.n 4) hP rfl rfl (by decide) rfl (inC_X2 _) tyX2 tyX2_ok df_X2 (fun k => ⟨((fr_X0 3 (by decide) (fr_X0 2 (by decide) (fr_X0 1 (by decide) (Fr.w0 (n := 4))))) 4 k (Nat.le_refl _)).1, ((fr_X0 3 (by decide) (fr_X0 2 (by decide) (fr_X0 1 (by decide) (Fr.w0 (n := 4))))) 4 k (Nat.le_refl _)).2.1⟩) rfl kl_X5_22 in_X2 ii_X2 (hup _ (by decide)) (Nat.le_of_ble_eq_true rfl) (Nat.le_of_ble_eq_true rfl) dX5_init_38 (fun H hP => ?_)
  refine lv_dup hx hb dX5_init_41 rfl ?_
  refine vk_init S (hF.n 5) hP (c_X2_init l P hA hup _ (by decide) _ (fr_X0 3 (by decide) (fr_X0 2 (by decide) (fr_X0 1 (by decide) (Fr.w0 (n := 5)))))) ok_X2_init ml_X5_24 rfl ⟨Nat.le_of_ble_eq_true rfl, Nat.le_of_ble_eq_true rfl⟩ hl.1 (Nat.le_of_ble_eq_true rfl) dX5_init_42 ⟨Nat.le_of_ble_eq_true rfl, Nat.le_of_ble_eq_true rfl⟩ (fun H locs hP => ?_)
  refine vk_putF (k := 3) (ci := 5) S (hF.n 14) hP 0 (show 0 < 14 by decide) rfl (by decide) rfl (by decide) tyX5 tyX5_ok nmX5 rfl hnm rfl rfl rfl (by decide) (inC_X5 _) (List.mem_cons_of_mem _ fl_X5_25) dX5_init_45 (cec_putR rfl (by decide) rfl) (fun j hj => cec_upF hj) (fun H locs hP => ?_)
  refine lv_aload_n hx hb dX5_init_48 rfl (lv_at hl 0 rfl) ?_
  refine vk_new (n := 14) S (hF.n 14) hP rfl rfl (by decide) rfl (inC_X1 _) tyX1 tyX1_ok df_X1 (fun k => ⟨((fr_X2 (by decide) (fr_X0 3 (by decide) (fr_X0 2 (by decide) (fr_X0 1 (by decide) (Fr.w0 (n := 14)))))) 14 k (Nat.le_refl _)).1, ((fr_X2 (by decide) (fr_X0 3 (by decide) (fr_X0 2 (by decide) (fr_X0 1 (by decide) (Fr.w0 (n := 14)))))) 14 k (Nat.le_refl _)).2.1⟩) rfl kl_X5_29 in_X1 ii_X1 (hup _ (by decide)) (Nat.le_of_ble_eq_true rfl) (Nat.le_of_ble_eq_true rfl) dX5_init_49 (fun H hP => ?_)
  refine lv_dup hx hb dX5_init_52 rfl ?_
  refine vk_initN (host := RX5) S (hF.n 15) hP (c_X1_init l P hA hup _ _ (fr_X2 (by decide) (fr_X0 3 (by decide) (fr_X0 2 (by decide) (fr_X0 1 (by decide) (Fr.w0 (n := 15))))))) ok_X1_init (by decide +kernel) rfl ⟨Nat.le_of_ble_eq_true rfl, Nat.le_of_ble_eq_true rfl⟩ hl.1 (Nat.le_of_ble_eq_true rfl) dX5_init_53 ⟨Nat.le_of_ble_eq_true rfl, Nat.le_of_ble_eq_true rfl⟩ (fun H locs hP => ?_)
  refine vk_putF (k := 4) (ci := 5) S (hF.n 19) hP 0 (show 0 < 19 by decide) rfl (by decide) rfl (by decide) tyX5 tyX5_ok nmX5 rfl hnm rfl rfl rfl (by decide) (inC_X5 _) (List.mem_cons_of_mem _ fl_X5_32) dX5_init_56 (cec_putR rfl (by decide) rfl) (fun j hj => cec_upF hj) (fun H locs hP => ?_)
  refine lv_aload_n hx hb dX5_init_59 rfl (lv_at hl 0 rfl) ?_
  refine vk_new (n := 19) S (hF.n 19) hP rfl rfl (by decide) rfl (inC_X3 _) tyX3 tyX3_ok df_X3 (fun k => ⟨((fr_X1 (by decide) (fr_X2 (by decide) (fr_X0 3 (by decide) (fr_X0 2 (by decide) (fr_X0 1 (by decide) (Fr.w0 (n := 19))))))) 19 k (Nat.le_refl _)).1, ((fr_X1 (by decide) (fr_X2 (by decide) (fr_X0 3 (by decide) (fr_X0 2 (by decide) (fr_X0 1 (by decide) (Fr.w0 (n := 19))))))) 19 k (Nat.le_refl _)).2.1⟩) rfl kl_X5_36 in_X3 ii_X3 (hup _ (by decide)) (Nat.le_of_ble_eq_true rfl) (Nat.le_of_ble_eq_true rfl) dX5_init_60 (fun H hP => ?_)
  refine lv_dup hx hb dX5_init_63 rfl ?_
  refine vk_initN (host := RX5) S (hF.n 20) hP (c_X3_init l P hA hup _ _ (fr_X1 (by decide) (fr_X2 (by decide) (fr_X0 3 (by decide) (fr_X0 2 (by decide) (fr_X0 1 (by decide) (Fr.w0 (n := 20)))))))) ok_X3_init (by decide +kernel) rfl ⟨Nat.le_of_ble_eq_true rfl, Nat.le_of_ble_eq_true rfl⟩ hl.1 (Nat.le_of_ble_eq_true rfl) dX5_init_64 ⟨Nat.le_of_ble_eq_true rfl, Nat.le_of_ble_eq_true rfl⟩ (fun H locs hP => ?_)
  refine vk_putF (k := 5) (ci := 5) S (hF.n 21) hP 0 (show 0 < 21 by decide) rfl (by decide) rfl (by decide) tyX5 tyX5_ok nmX5 rfl hnm rfl rfl rfl (by decide) (inC_X5 _) (List.mem_cons_of_mem _ fl_X5_39) dX5_init_67 (cec_putR rfl (by decide) rfl) (fun j hj => cec_upF hj) (fun H locs hP => ?_)
  refine lv_aload_n hx hb dX5_init_70 rfl (lv_at hl 0 rfl) ?_
  refine vk_new (n := 21) S (hF.n 21) hP rfl rfl (by decide) rfl (inC_X4 _) tyX4 tyX4_ok df_X4 (fun k => ⟨((fr_X3 (by decide) (fr_X1 (by decide) (fr_X2 (by decide) (fr_X0 3 (by decide) (fr_X0 2 (by decide) (fr_X0 1 (by decide) (Fr.w0 (n := 21)))))))) 21 k (Nat.le_refl _)).1, ((fr_X3 (by decide) (fr_X1 (by decide) (fr_X2 (by decide) (fr_X0 3 (by decide) (fr_X0 2 (by decide) (fr_X0 1 (by decide) (Fr.w0 (n := 21)))))))) 21 k (Nat.le_refl _)).2.1⟩) rfl kl_X5_43 in_X4 ii_X4 (hup _ (by decide)) (Nat.le_of_ble_eq_true rfl) (Nat.le_of_ble_eq_true rfl) dX5_init_71 (fun H hP => ?_)
  refine lv_dup hx hb dX5_init_74 rfl ?_
  refine vk_initN (host := RX5) S (hF.n 22) hP (c_X4_init l P hA hup _ _ (fr_X3 (by decide) (fr_X1 (by decide) (fr_X2 (by decide) (fr_X0 3 (by decide) (fr_X0 2 (by decide) (fr_X0 1 (by decide) (Fr.w0 (n := 22))))))))) ok_X4_init (by decide +kernel) rfl ⟨Nat.le_of_ble_eq_true rfl, Nat.le_of_ble_eq_true rfl⟩ hl.1 (Nat.le_of_ble_eq_true rfl) dX5_init_75 ⟨Nat.le_of_ble_eq_true rfl, Nat.le_of_ble_eq_true rfl⟩ (fun H locs hP => ?_)
  refine vk_putF (k := 6) (ci := 5) S (hF.n 25) hP 0 (show 0 < 25 by decide) rfl (by decide) rfl (by decide) tyX5 tyX5_ok nmX5 rfl hnm rfl rfl rfl (by decide) (inC_X5 _) (List.mem_cons_of_mem _ fl_X5_46) dX5_init_78 (cec_putR rfl (by decide) rfl) (fun j hj => cec_upF hj) (fun H locs hP => ?_)
  refine lv_aload_n hx hb dX5_init_81 rfl (lv_at hl 0 rfl) ?_
  refine lv_bipush (v := 60) hx hb dX5_init_82 (by decide) ?_
  refine vk_newa (n := 25) (t := 2) (K := 60) S (hF.n 25) hP rfl rfl rfl rfl (vk_cellC (n := 25) (N := 60) rfl (fun k => ((fr_X4 (by decide) (fr_X3 (by decide) (fr_X1 (by decide) (fr_X2 (by decide) (fr_X0 3 (by decide) (fr_X0 2 (by decide) (fr_X0 1 (by decide) (Fr.w0 (n := 25))))))))) 25 k (Nat.le_refl _)).1)) (fun _ z => z) ac_char (hup _ (by decide)) (by decide) (by decide) (by decide) (Nat.le_of_ble_eq_true rfl) (Nat.le_of_ble_eq_true rfl) dX5_init_84 (fun H hP => ?_)
  refine vk_putF (k := 7) (ci := 5) S (hF.n 26) hP 0 (show 0 < 26 by decide) rfl (by decide) rfl (by decide) tyX5 tyX5_ok nmX5 rfl hnm rfl rfl rfl (by decide) (inC_X5 _) (List.mem_cons_of_mem _ fl_X5_50) dX5_init_86 (cec_putR rfl (by decide) rfl) (fun j hj => cec_upF hj) (fun H locs hP => ?_)
  refine lv_aload_n hx hb dX5_init_89 rfl (lv_at hl 0 rfl) ?_
  refine lv_iconst (v := 0) hx hb dX5_init_90 (by decide) ?_
  refine vk_put (k := 8) (ci := 5) S (hF.n 26) hP 0 (show 0 < 26 by decide) rfl (by decide) rfl (by decide) tyX5 tyX5_ok nmX5 rfl rfl rfl (by decide) (inC_X5 _) (List.mem_cons_of_mem _ fl_X5_54) dX5_init_91 (cec_putI rfl (by decide) rfl) (fun j hj => cec_pI hj) (fun H locs hP => ?_)
  refine lv_aload_n hx hb dX5_init_94 rfl (lv_at hl 0 rfl) ?_
  refine lv_iconst (v := (-1)) hx hb dX5_init_95 (by decide) ?_
  refine vk_put (k := 9) (ci := 5) S (hF.n 26) hP 0 (show 0 < 26 by decide) rfl (by decide) rfl (by decide) tyX5 tyX5_ok nmX5 rfl rfl rfl (by decide) (inC_X5 _) (List.mem_cons_of_mem _ fl_X5_58) dX5_init_96 (cec_putI rfl (by decide) rfl) (fun j hj => cec_pI hj) (fun H locs hP => ?_)
  refine lv_aload_n hx hb dX5_init_99 rfl (lv_at hl 0 rfl) ?_
  refine lv_iconst (v := (-1)) hx hb dX5_init_100 (by decide) ?_
  refine vk_put (k := 10) (ci := 5) S (hF.n 26) hP 0 (show 0 < 26 by decide) rfl (by decide) rfl (by decide) tyX5 tyX5_ok nmX5 rfl rfl rfl (by decide) (inC_X5 _) (List.mem_cons_of_mem _ fl_X5_61) dX5_init_101 (cec_putI rfl (by decide) rfl) (fun j hj => cec_pI hj) (fun H locs hP => ?_)
  refine lv_aload_n hx hb dX5_init_104 rfl (lv_at hl 0 rfl) ?_
  refine lv_iconst (v := (-1)) hx hb dX5_init_105 (by decide) ?_
  refine vk_put (k := 11) (ci := 5) S (hF.n 26) hP 0 (show 0 < 26 by decide) rfl (by decide) rfl (by decide) tyX5 tyX5_ok nmX5 rfl rfl rfl (by decide) (inC_X5 _) (List.mem_cons_of_mem _ fl_X5_64) dX5_init_106 (cec_putI rfl (by decide) rfl) (fun j hj => cec_pI hj) (fun H locs hP => ?_)
  refine lv_aload_n hx hb dX5_init_109 rfl (lv_at hl 0 rfl) ?_
  refine lv_iconst (v := 0) hx hb dX5_init_110 (by decide) ?_
  refine vk_put (k := 12) (ci := 5) S (hF.n 26) hP 0 (show 0 < 26 by decide) rfl (by decide) rfl (by decide) tyX5 tyX5_ok nmX5 rfl rfl rfl (by decide) (inC_X5 _) (List.mem_cons_of_mem _ fl_X5_67) dX5_init_111 (cec_putI rfl (by decide) rfl) (fun j hj => cec_pI hj) (fun H locs hP => ?_)
  refine lv_aload_n hx hb dX5_init_114 rfl (lv_at hl 0 rfl) ?_
  have hP := hP.st (fun j hj => cec_all (flX5_all j hj))
  refine vt_getR (r := 1) S (hF.n 26).fx hP (k := 0) (ci := 5) 0 (show 0 < 26 by decide) rfl (by decide) rfl (by decide) rfl rfl (inC_X5 _) (List.mem_cons_of_mem _ fl_X5_12) dX5_init_115 ?_
  refine lv_iconst (v := 3) hx hb dX5_init_118 (by decide) ?_
  refine lv_iconst (v := 3) hx hb dX5_init_119 (by decide) ?_
  refine vu_v hP (vu_V S (hF.n 26).fx hP (h := 1) (show 1 < 26 by decide) rfl (by decide) rfl (c_X0_lay l (Pn P 26) (hA.adr 26) (Nat.le_refl _) _ 3 3 h) ok_X0_lay ml_X5_71 ⟨Nat.le_of_ble_eq_true rfl, Nat.le_of_ble_eq_true rfl⟩ rfl hl.1 rfl (Nat.le_of_ble_eq_true rfl) dX5_init_120 ⟨Nat.le_of_ble_eq_true rfl, Nat.le_of_ble_eq_true rfl⟩) (fun H locs hP => ?_)
  refine W.widen (k := 25) (n := 740) (Nat.le_of_ble_eq_true rfl) (Nat.le_of_ble_eq_true rfl) ?_
  exact ve_v S (hF.n 26).fx hP hr hk dX5_init_123
