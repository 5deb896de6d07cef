set_option maxRecDepth 100000 in
set_option maxHeartbeats 4000000 in
theorem c_X6_does (l : Launch) (P : Pl) (hA : Adr P) (hn : 36 ≤ P.2.2.2.1) (w : Wo) (x1 : Int32) {r : Int32 × Wo} (h : F_X6_does w x1 = some r) : CtI l P yX6_does cX6_does 4 (some .int) 5 [.ref (P.2.1 26), .int x1] w r.1 r.2 := by
  have hlt : ∀ h, h < 36 → h < P.2.2.2.1 := fun h q => Nat.lt_of_lt_of_le q hn
  refine vs_met hA (by decide +kernel) (Nat.le_of_ble_eq_true rfl) (fun p e s m args below meth c ls S hF hP hl hr hk => ?_)
  have hx := S.1
  have hb := S.2.1
  replace hl : lv_has ls 4 [(0, .ref (P.2.1 26)), (1, .int x1)] := hl
  have hB18 : ∀ (w : Wo) (x1 : Int32) (x2 : Int32) (x3 : Int32), B_X6_does_18 w x1 x2 x3 = some r → ∀ (H : Heap) (locs : List Loc) (ls : Array Slot), St P s w H locs → lv_has ls 4 [(0, .ref (P.2.1 26)), (1, .int x1), (2, .int x2), (3, .int x3)] → W p l e (rmU 5 0 0) s m args below meth c H locs 0 0 (QI P (some .int) r.1 r.2 below args s) (F0 m 18 ls []) := by
    intro w x1 x2 x3 h H locs ls hP hl
    unfold B_X6_does_18 at h
    refine lv_aload_n hx hb dX6_does_18 rfl (lv_at hl 0 rfl) ?_
    refine vt_getR (r := 35) S hF hP (k := 20) (ci := 6) 26 (hlt _ (by decide)) rfl (by decide) rfl (by decide) rfl rfl (inC_X6 _) (List.mem_cons_of_mem _ fl_X6_39) dX6_does_19 ?_
    refine lv_iload_n hx hb dX6_does_22 rfl (lv_at hl 1 rfl) ?_
    obtain ⟨c15, h⟩ := chk h
    refine vt_iald S hF hP (hlt _ (by decide)) rfl c15 dX6_does_23 ?_
    by_cases c16 : (gI w 35 (Int32.toNatClampNeg x1)) = 98
    · rw [if_pos c16] at h
      refine lv_lookup (off := 60) (tgt := 84) hx hb dX6_does_24 (by decide) (by rw [c16]; rfl) (by decide) ?_
      refine lv_aload_n hx hb dX6_does_84 rfl (lv_at hl 0 rfl) ?_
      refine lv_iload_n hx hb dX6_does_85 rfl (lv_at hl 2 rfl) ?_
      refine lv_iload_n hx hb dX6_does_86 rfl (lv_at hl 3 rfl) ?_
      obtain ⟨q1, hq1, h⟩ := ob h
      refine vu_i hP (vu_V S hF hP (h := 26) (hlt _ (by decide)) rfl (by decide) rfl (c_X6_boards l P hA hn w x2 x3 hq1) ok_X6_boards ml_X6_87 ⟨Nat.le_of_ble_eq_true rfl, Nat.le_of_ble_eq_true rfl⟩ rfl hl.1 rfl (Nat.le_of_ble_eq_true rfl) dX6_does_87 ⟨Nat.le_of_ble_eq_true rfl, Nat.le_of_ble_eq_true rfl⟩) (fun H locs ho2 hP => ?_)
      obtain rfl := Option.some.inj h
      exact ve_i (v := q1.1) S hF hP hr hk rfl dX6_does_90
    rw [if_neg c16] at h
    by_cases c17 : (gI w 35 (Int32.toNatClampNeg x1)) = 103
    · rw [if_pos c17] at h
      refine lv_lookup (off := 81) (tgt := 105) hx hb dX6_does_24 (by decide) (by rw [c17]; rfl) (by decide) ?_
      refine lv_aload_n hx hb dX6_does_105 rfl (lv_at hl 0 rfl) ?_
      refine lv_iload_n hx hb dX6_does_106 rfl (lv_at hl 2 rfl) ?_
      refine lv_iload_n hx hb dX6_does_107 rfl (lv_at hl 3 rfl) ?_
      obtain ⟨q3, hq3, h⟩ := ob h
      refine vu_i hP (vu_V S hF hP (h := 26) (hlt _ (by decide)) rfl (by decide) rfl (c_X6_goals l P hA hn w x2 x3 hq3) ok_X6_goals ml_X6_115 ⟨Nat.le_of_ble_eq_true rfl, Nat.le_of_ble_eq_true rfl⟩ rfl hl.1 rfl (Nat.le_of_ble_eq_true rfl) dX6_does_108 ⟨Nat.le_of_ble_eq_true rfl, Nat.le_of_ble_eq_true rfl⟩) (fun H locs ho4 hP => ?_)
      obtain rfl := Option.some.inj h
      exact ve_i (v := q3.1) S hF hP hr hk rfl dX6_does_111
    rw [if_neg c17] at h
    by_cases c18 : (gI w 35 (Int32.toNatClampNeg x1)) = 112
    · rw [if_pos c18] at h
      refine lv_lookup (off := 74) (tgt := 98) hx hb dX6_does_24 (by decide) (by rw [c18]; rfl) (by decide) ?_
      refine lv_aload_n hx hb dX6_does_98 rfl (lv_at hl 0 rfl) ?_
      refine lv_iload_n hx hb dX6_does_99 rfl (lv_at hl 2 rfl) ?_
      refine lv_iload_n hx hb dX6_does_100 rfl (lv_at hl 3 rfl) ?_
      obtain ⟨q5, hq5, h⟩ := ob h
      refine vu_i hP (vu_V S hF hP (h := 26) (hlt _ (by decide)) rfl (by decide) rfl (c_X6_puts l P hA hn w x2 x3 hq5) ok_X6_puts ml_X6_112 ⟨Nat.le_of_ble_eq_true rfl, Nat.le_of_ble_eq_true rfl⟩ rfl hl.1 rfl (Nat.le_of_ble_eq_true rfl) dX6_does_101 ⟨Nat.le_of_ble_eq_true rfl, Nat.le_of_ble_eq_true rfl⟩) (fun H locs ho6 hP => ?_)
      obtain rfl := Option.some.inj h
      exact ve_i (v := q5.1) S hF hP hr hk rfl dX6_does_104
    rw [if_neg c18] at h
    by_cases c19 : (gI w 35 (Int32.toNatClampNeg x1)) = 115
    · rw [if_pos c19] at h
      refine lv_lookup (off := 67) (tgt := 91) hx hb dX6_does_24 (by decide) (by rw [c19]; rfl) (by decide) ?_
      refine lv_aload_n hx hb dX6_does_91 rfl (lv_at hl 0 rfl) ?_
      refine lv_iload_n hx hb dX6_does_92 rfl (lv_at hl 2 rfl) ?_
      refine lv_iload_n hx hb dX6_does_93 rfl (lv_at hl 3 rfl) ?_
      obtain ⟨q7, hq7, h⟩ := ob h
      refine vu_i hP (vu_V S hF hP (h := 26) (hlt _ (by decide)) rfl (by decide) rfl (c_X6_swaps l P hA hn w x2 x3 hq7) ok_X6_swaps ml_X6_152 ⟨Nat.le_of_ble_eq_true rfl, Nat.le_of_ble_eq_true rfl⟩ rfl hl.1 rfl (Nat.le_of_ble_eq_true rfl) dX6_does_94 ⟨Nat.le_of_ble_eq_true rfl, Nat.le_of_ble_eq_true rfl⟩) (fun H locs ho8 hP => ?_)
      obtain rfl := Option.some.inj h
      exact ve_i (v := q7.1) S hF hP hr hk rfl dX6_does_97
    rw [if_neg c19] at h
    by_cases c20 : (gI w 35 (Int32.toNatClampNeg x1)) = 116
    · rw [if_pos c20] at h
      refine lv_lookup (off := 88) (tgt := 112) hx hb dX6_does_24 (by decide) (by rw [c20]; rfl) (by decide) ?_
      refine lv_aload_n hx hb dX6_does_112 rfl (lv_at hl 0 rfl) ?_
      refine lv_iload_n hx hb dX6_does_113 rfl (lv_at hl 2 rfl) ?_
      obtain ⟨q9, hq9, h⟩ := ob h
      refine vu_i hP (vu_V S hF hP (h := 26) (hlt _ (by decide)) rfl (by decide) rfl (c_X6_turnsOne l P hA hn w x2 hq9) ok_X6_turnsOne ml_X6_149 ⟨Nat.le_of_ble_eq_true rfl, Nat.le_of_ble_eq_true rfl⟩ rfl hl.1 rfl (Nat.le_of_ble_eq_true rfl) dX6_does_114 ⟨Nat.le_of_ble_eq_true rfl, Nat.le_of_ble_eq_true rfl⟩) (fun H locs ho10 hP => ?_)
      obtain rfl := Option.some.inj h
      exact ve_i (v := q9.1) S hF hP hr hk rfl dX6_does_117
    rw [if_neg c20] at h
    by_cases c21 : (gI w 35 (Int32.toNatClampNeg x1)) = 120
    · rw [if_pos c21] at h
      refine lv_lookup (off := 94) (tgt := 118) hx hb dX6_does_24 (by decide) (by rw [c21]; rfl) (by decide) ?_
      refine lv_aload_n hx hb dX6_does_118 rfl (lv_at hl 0 rfl) ?_
      refine lv_iload_n hx hb dX6_does_119 rfl (lv_at hl 2 rfl) ?_
      obtain ⟨q11, hq11, h⟩ := ob h
      refine vu_i hP (vu_V S hF hP (h := 26) (hlt _ (by decide)) rfl (by decide) rfl (c_X6_bars l P hA hn w x2 hq11) ok_X6_bars ml_X6_158 ⟨Nat.le_of_ble_eq_true rfl, Nat.le_of_ble_eq_true rfl⟩ rfl hl.1 rfl (Nat.le_of_ble_eq_true rfl) dX6_does_120 ⟨Nat.le_of_ble_eq_true rfl, Nat.le_of_ble_eq_true rfl⟩) (fun H locs ho12 hP => ?_)
      obtain rfl := Option.some.inj h
      exact ve_i (v := q11.1) S hF hP hr hk rfl dX6_does_123
    rw [if_neg c21] at h
    refine lv_lookup (off := 100) (tgt := 124) hx hb dX6_does_24 (by decide) (lk_out (fun q hq => ?_)) (by decide) ?_
    · have hq2 : q = (98, 60) ∨ q = (103, 81) ∨ q = (112, 74) ∨ q = (115, 67) ∨ q = (116, 88) ∨ q = (120, 94) := by simpa using hq
      rcases hq2 with rfl | rfl | rfl | rfl | rfl | rfl
      · exact c16
      · exact c17
      · exact c18
      · exact c19
      · exact c20
      · exact c21
    refine lv_aload_n hx hb dX6_does_124 rfl (lv_at hl 0 rfl) ?_
    refine lv_iload_n hx hb dX6_does_125 rfl (lv_at hl 2 rfl) ?_
    refine lv_iload_n hx hb dX6_does_126 rfl (lv_at hl 3 rfl) ?_
    obtain ⟨q13, hq13, h⟩ := ob h
    refine vu_i hP (vu_V S hF hP (h := 26) (hlt _ (by decide)) rfl (by decide) rfl (c_X6_scrambles l P hA hn w x2 x3 hq13) ok_X6_scrambles ml_X6_161 ⟨Nat.le_of_ble_eq_true rfl, Nat.le_of_ble_eq_true rfl⟩ rfl hl.1 rfl (Nat.le_of_ble_eq_true rfl) dX6_does_127 ⟨Nat.le_of_ble_eq_true rfl, Nat.le_of_ble_eq_true rfl⟩) (fun H locs ho14 hP => ?_)
    obtain rfl := Option.some.inj h
    exact ve_i (v := q13.1) S hF hP hr hk rfl dX6_does_130
  have hB9 : ∀ (w : Wo) (x1 : Int32) (x2 : Int32), B_X6_does_9 w x1 x2 = some r → ∀ (H : Heap) (locs : List Loc) (ls : Array Slot), St P s w H locs → lv_has ls 4 [(0, .ref (P.2.1 26)), (1, .int x1), (2, .int x2)] → W p l e (rmU 5 0 0) s m args below meth c H locs 0 0 (QI P (some .int) r.1 r.2 below args s) (F0 m 9 ls []) := by
    intro w x1 x2 h H locs ls hP hl
    unfold B_X6_does_9 at h
    refine lv_aload_n hx hb dX6_does_9 rfl (lv_at hl 0 rfl) ?_
    refine vt_getR (r := 35) S hF hP (k := 20) (ci := 6) 26 (hlt _ (by decide)) rfl (by decide) rfl (by decide) rfl rfl (inC_X6 _) (List.mem_cons_of_mem _ fl_X6_39) dX6_does_10 ?_
    refine lv_iload_n hx hb dX6_does_13 rfl (lv_at hl 1 rfl) ?_
    refine lv_iconst (v := 2) hx hb dX6_does_14 (by decide) ?_
    refine lv_iadd hx hb dX6_does_15 ?_
    obtain ⟨c22, h⟩ := chk h
    refine vt_iald S hF hP (hlt _ (by decide)) rfl c22 dX6_does_16 ?_
    refine lv_istore_n (lv' := [(3, .int (gI w 35 (Int32.toNatClampNeg (x1 + (2 : Int32))))), (0, .ref (P.2.1 26)), (1, .int x1), (2, .int x2)]) hx hb dX6_does_17 rfl hl (by decide) rfl (fun ls hl => ?_)
    exact hB18 _ _ _ _ h _ _ _ hP (lv_sub hl [1, 2, 3, 0] rfl)
  unfold F_X6_does at h
  refine lv_aload_n hx hb dX6_does_0 rfl (lv_at hl 0 rfl) ?_
  refine vt_getR (r := 35) S hF hP (k := 20) (ci := 6) 26 (hlt _ (by decide)) rfl (by decide) rfl (by decide) rfl rfl (inC_X6 _) (List.mem_cons_of_mem _ fl_X6_39) dX6_does_1 ?_
  refine lv_iload_n hx hb dX6_does_4 rfl (lv_at hl 1 rfl) ?_
  refine lv_iconst (v := 1) hx hb dX6_does_5 (by decide) ?_
  refine lv_iadd hx hb dX6_does_6 ?_
  obtain ⟨c23, h⟩ := chk h
  refine vt_iald S hF hP (hlt _ (by decide)) rfl c23 dX6_does_7 ?_
  refine lv_istore_n (lv' := [(2, .int (gI w 35 (Int32.toNatClampNeg (x1 + (1 : Int32))))), (0, .ref (P.2.1 26)), (1, .int x1)]) hx hb dX6_does_8 rfl hl (by decide) rfl (fun ls hl => ?_)
  exact hB9 _ _ _ h _ _ _ hP (lv_sub hl [1, 2, 0] rfl)
set_option maxRecDepth 100000 in
set_option maxHeartbeats 4000000 in
theorem c_X6_run (l : Launch) (P : Pl) (hA : Adr P) (hn : 36 ≤ P.2.2.2.1) (w : Wo) {r : Int32 × Wo} (h : F_X6_run w = some r) : CtI l P yX6_run cX6_run 5 (some .int) 6 [.ref (P.2.1 26)] w r.1 r.2 := by
  have hlt : ∀ h, h < 36 → h < P.2.2.2.1 := fun h q => Nat.lt_of_lt_of_le q hn
  refine vs_met hA (by decide +kernel) (Nat.le_of_ble_eq_true rfl) (fun p e s m args below meth c ls S hF hP hl hr hk => ?_)
  have hx := S.1
  have hb := S.2.1
  replace hl : lv_has ls 5 [(0, .ref (P.2.1 26))] := hl
  have hB191 : ∀ (w : Wo) (x1 : Int32), B_X6_run_191 w x1 = some r → ∀ (H : Heap) (locs : List Loc) (ls : Array Slot), St P s w H locs → lv_has ls 5 [(0, .ref (P.2.1 26)), (1, .int x1)] → W p l e (rmU 6 0 0) s m args below meth c H locs 0 0 (QI P (some .int) r.1 r.2 below args s) (F0 m 191 ls []) := by
    intro w x1 h H locs ls hP hl
    unfold B_X6_run_191 at h
    refine lv_aload_n hx hb dX6_run_191 rfl (lv_at hl 0 rfl) ?_
    refine lv_aload_n hx hb dX6_run_192 rfl (lv_at hl 0 rfl) ?_
    refine lv_iload_n hx hb dX6_run_193 rfl (lv_at hl 1 rfl) ?_
    obtain ⟨q2, hq2, h⟩ := ob h
    refine vu_i hP (vu_V S hF hP (h := 26) (hlt _ (by decide)) rfl (by decide) rfl (c_X6_done l P hA hn w x1 hq2) ok_X6_done ml_X6_81 ⟨Nat.le_of_ble_eq_true rfl, Nat.le_of_ble_eq_true rfl⟩ rfl hl.1 rfl (Nat.le_of_ble_eq_true rfl) dX6_run_194 ⟨Nat.le_of_ble_eq_true rfl, Nat.le_of_ble_eq_true rfl⟩) (fun H locs ho3 hP => ?_)
    obtain ⟨q4, hq4, h⟩ := ob h
    refine vu_i hP (vu_V S hF hP (h := 26) (hlt _ (by decide)) rfl (by decide) rfl (c_X6_kept l P hA hn q2.2 q2.1 hq4) ok_X6_kept ml_X6_91 ⟨Nat.le_of_ble_eq_true rfl, Nat.le_of_ble_eq_true rfl⟩ rfl hl.1 rfl (Nat.le_of_ble_eq_true rfl) dX6_run_197 ⟨Nat.le_of_ble_eq_true rfl, Nat.le_of_ble_eq_true rfl⟩) (fun H locs ho5 hP => ?_)
    obtain rfl := Option.some.inj h
    exact ve_i (v := q4.1) S hF hP hr hk rfl dX6_run_200
  have hB178 : ∀ (w : Wo) (x4 : Int32), B_X6_run_178 w x4 = some r → ∀ (H : Heap) (locs : List Loc) (ls : Array Slot), St P s w H locs → lv_has ls 5 [(0, .ref (P.2.1 26)), (4, .int x4)] → W p l e (rmU 6 0 0) s m args below meth c H locs 0 0 (QI P (some .int) r.1 r.2 below args s) (F0 m 178 ls []) := by
    intro w x4 h H locs ls hP hl
    unfold B_X6_run_178 at h
    refine lv_aload_n hx hb dX6_run_178 rfl (lv_at hl 0 rfl) ?_
    refine lv_iload hx hb dX6_run_179 (lv_at hl 1 rfl) ?_
    obtain ⟨q8, hq8, h⟩ := ob h
    refine vu_i hP (vu_V S hF hP (h := 26) (hlt _ (by decide)) rfl (by decide) rfl (c_X6_kept l P hA hn w x4 hq8) ok_X6_kept ml_X6_91 ⟨Nat.le_of_ble_eq_true rfl, Nat.le_of_ble_eq_true rfl⟩ rfl hl.1 rfl (Nat.le_of_ble_eq_true rfl) dX6_run_181 ⟨Nat.le_of_ble_eq_true rfl, Nat.le_of_ble_eq_true rfl⟩) (fun H locs ho9 hP => ?_)
    obtain rfl := Option.some.inj h
    exact ve_i (v := q8.1) S hF hP hr hk rfl dX6_run_184
  have hB175 : ∀ (w : Wo) (x4 : Int32) (t0 : Int32), B_X6_run_175 w x4 t0 = some r → ∀ (H : Heap) (locs : List Loc) (ls : Array Slot), St P s w H locs → lv_has ls 5 [(0, .ref (P.2.1 26)), (4, .int x4)] → W p l e (rmU 6 0 0) s m args below meth c H locs 0 0 (QI P (some .int) r.1 r.2 below args s) (F0 m 175 ls [.int t0, .ref (P.2.1 26)]) := by
    intro w x4 t0 h H locs ls hP hl
    unfold B_X6_run_175 at h
    refine vt_putI S hF hP (k := 14) (ci := 6) 26 (hlt _ (by decide)) rfl (by decide) rfl (by decide) rfl tyX6 tyX6_ok nmX6 rfl rfl rfl rfl (by decide) (inC_X6 _) (List.mem_cons_of_mem _ fl_X6_46) dX6_run_175 (fun H locs hP => ?_)
    exact hB178 _ _ h _ _ _ hP (lv_sub hl [0, 1] rfl)
  have hB162 : ∀ (w : Wo) (x4 : Int32), B_X6_run_162 w x4 = some r → ∀ (H : Heap) (locs : List Loc) (ls : Array Slot), St P s w H locs → lv_has ls 5 [(0, .ref (P.2.1 26)), (4, .int x4)] → W p l e (rmU 6 0 0) s m args below meth c H locs 0 0 (QI P (some .int) r.1 r.2 below args s) (F0 m 162 ls []) := by
    intro w x4 h H locs ls hP hl
    unfold B_X6_run_162 at h
    refine lv_aload_n hx hb dX6_run_162 rfl (lv_at hl 0 rfl) ?_
    refine lv_aload_n hx hb dX6_run_163 rfl (lv_at hl 0 rfl) ?_
    refine vt_getI S hF hP (k := 11) (ci := 6) 26 (hlt _ (by decide)) rfl (by decide) rfl (by decide) rfl (inC_X6 _) (List.mem_cons_of_mem _ fl_X6_49) dX6_run_164 ?_
    refine lv_if_eq (tgt := 174) hx hb dX6_run_167 (by decide) (fun c15 => ?_) (fun c15 => ?_)
    · rw [if_pos c15] at h
      refine lv_iconst (v := 1) hx hb dX6_run_174 (by decide) ?_
      exact hB175 _ _ _ h _ _ _ hP (lv_sub hl [0, 1] rfl)
    · rw [if_neg c15] at h
      refine lv_iconst (v := 2) hx hb dX6_run_170 (by decide) ?_
      refine lv_goto (tgt := 175) hx hb dX6_run_171 (by decide) ?_
      exact hB175 _ _ _ h _ _ _ hP (lv_sub hl [0, 1] rfl)
  have hL141 : ∀ (x1 : Int32) (n : Nat) (w : Wo) (x3 : Int32), jl2 (B_X6_run_141 x1) n w x3 = some r → ∀ (H : Heap) (locs : List Loc) (ls : Array Slot), St P s w H locs → lv_has ls 5 [(0, .ref (P.2.1 26)), (1, .int x1), (3, .int x3)] → W p l e (rmU 6 0 0) s m args below meth c H locs 0 0 (QI P (some .int) r.1 r.2 below args s) (F0 m 141 ls []) := by
    intro x1
    intro n
    induction n with
    | zero =>
      intro w x3 h
      cases h
    | succ n ih141 =>
      intro w x3 h H locs ls hP hl
      replace h : B_X6_run_141 x1 (jl2 (B_X6_run_141 x1) n) w x3 = some r := h
      revert h ih141
      generalize jl2 (B_X6_run_141 x1) n = k141
      intro ih141 h
      unfold B_X6_run_141 at h
      refine lv_iload_n hx hb dX6_run_141 rfl (lv_at hl 2 rfl) ?_
      refine lv_iload_n hx hb dX6_run_142 rfl (lv_at hl 1 rfl) ?_
      refine lv_icmp_ge (tgt := 191) hx hb dX6_run_143 (by decide) (fun c16 => ?_) (fun c16 => ?_)
      · rw [if_pos c16] at h
        exact hB191 _ _ h _ _ _ hP (lv_sub hl [0, 1] rfl)
      · rw [if_neg c16] at h
        refine lv_aload_n hx hb dX6_run_146 rfl (lv_at hl 0 rfl) ?_
        refine lv_iconst (v := 3) hx hb dX6_run_147 (by decide) ?_
        refine lv_iload_n hx hb dX6_run_148 rfl (lv_at hl 2 rfl) ?_
        refine lv_imul hx hb dX6_run_149 ?_
        obtain ⟨q6, hq6, h⟩ := ob h
        refine vu_i hP (vu_V S hF hP (h := 26) (hlt _ (by decide)) rfl (by decide) rfl (c_X6_does l P hA hn w ((3 : Int32) * x3) hq6) ok_X6_does ml_X6_257 ⟨Nat.le_of_ble_eq_true rfl, Nat.le_of_ble_eq_true rfl⟩ rfl hl.1 rfl (Nat.le_of_ble_eq_true rfl) dX6_run_150 ⟨Nat.le_of_ble_eq_true rfl, Nat.le_of_ble_eq_true rfl⟩) (fun H locs ho7 hP => ?_)
        refine lv_istore (lv' := [(4, .int q6.1), (0, .ref (P.2.1 26)), (1, .int x1), (3, .int x3)]) hx hb dX6_run_153 hl (by decide) rfl (fun ls hl => ?_)
        refine lv_aload_n hx hb dX6_run_155 rfl (lv_at hl 1 rfl) ?_
        refine vt_getI S hF hP (k := 14) (ci := 6) 26 (hlt _ (by decide)) rfl (by decide) rfl (by decide) rfl (inC_X6 _) (List.mem_cons_of_mem _ fl_X6_46) dX6_run_156 ?_
        refine lv_if_eq (tgt := 185) hx hb dX6_run_159 (by decide) (fun c17 => ?_) (fun c17 => ?_)
        · rw [if_pos c17] at h
          refine lv_iinc (v := (x3 + 1)) (lv' := [(3, .int (x3 + 1)), (4, .int q6.1), (0, .ref (P.2.1 26)), (1, .int x1)]) hx hb dX6_run_185 hl (k := 3) rfl rfl (by decide) rfl (fun ls hl => ?_)
          refine lv_goto (tgt := 141) hx hb dX6_run_188 (by decide) ?_
          exact ih141 _ _ h _ _ _ hP (lv_sub hl [2, 3, 0] rfl)
        · rw [if_neg c17] at h
          exact hB162 _ _ h _ _ _ hP (lv_sub hl [1, 0] rfl)
  have hB122 : ∀ (w : Wo) (x1 : Int32), B_X6_run_122 w x1 = some r → ∀ (H : Heap) (locs : List Loc) (ls : Array Slot), St P s w H locs → lv_has ls 5 [(0, .ref (P.2.1 26)), (1, .int x1)] → W p l e (rmU 6 0 0) s m args below meth c H locs 0 0 (QI P (some .int) r.1 r.2 below args s) (F0 m 122 ls []) := by
    intro w x1 h H locs ls hP hl
    unfold B_X6_run_122 at h
    refine lv_aload_n hx hb dX6_run_122 rfl (lv_at hl 0 rfl) ?_
    refine vt_getI S hF hP (k := 19) (ci := 6) 26 (hlt _ (by decide)) rfl (by decide) rfl (by decide) rfl (inC_X6 _) (List.mem_cons_of_mem _ fl_X6_238) dX6_run_123 ?_
    refine lv_if_eq (tgt := 135) hx hb dX6_run_126 (by decide) (fun c18 => ?_) (fun c18 => ?_)
    · rw [if_pos c18] at h
      refine lv_aload_n hx hb dX6_run_135 rfl (lv_at hl 0 rfl) ?_
      obtain ⟨q1, hq1, h⟩ := ob h
      refine vu_v hP (vu_V S hF hP (h := 26) (hlt _ (by decide)) rfl (by decide) rfl (c_X6_looksBack l P hA hn w hq1) ok_X6_looksBack ml_X6_84 ⟨Nat.le_of_ble_eq_true rfl, Nat.le_of_ble_eq_true rfl⟩ rfl hl.1 rfl (Nat.le_of_ble_eq_true rfl) dX6_run_136 ⟨Nat.le_of_ble_eq_true rfl, Nat.le_of_ble_eq_true rfl⟩) (fun H locs hP => ?_)
      refine lv_iconst (v := 0) hx hb dX6_run_139 (by decide) ?_
      refine lv_istore_n (lv' := [(3, .int 0), (0, .ref (P.2.1 26)), (1, .int x1)]) hx hb dX6_run_140 rfl hl (by decide) rfl (fun ls hl => ?_)
      exact hL141 _ fu _ _ h _ _ _ hP (lv_sub hl [1, 2, 0] rfl)
    · rw [if_neg c18] at h
      refine lv_aload_n hx hb dX6_run_129 rfl (lv_at hl 0 rfl) ?_
      refine lv_iconst (v := 1) hx hb dX6_run_130 (by decide) ?_
      obtain ⟨q10, hq10, h⟩ := ob h
      refine vu_i hP (vu_V S hF hP (h := 26) (hlt _ (by decide)) rfl (by decide) rfl (c_X6_fails l P hA hn w 1 hq10) ok_X6_fails ml_X6_77 ⟨Nat.le_of_ble_eq_true rfl, Nat.le_of_ble_eq_true rfl⟩ rfl hl.1 rfl (Nat.le_of_ble_eq_true rfl) dX6_run_131 ⟨Nat.le_of_ble_eq_true rfl, Nat.le_of_ble_eq_true rfl⟩) (fun H locs ho11 hP => ?_)
      obtain rfl := Option.some.inj h
      exact ve_i (v := q10.1) S hF hP hr hk rfl dX6_run_134
  have hB119 : ∀ (w : Wo) (x1 : Int32) (t0 : Int32), B_X6_run_119 w x1 t0 = some r → ∀ (H : Heap) (locs : List Loc) (ls : Array Slot), St P s w H locs → lv_has ls 5 [(0, .ref (P.2.1 26)), (1, .int x1)] → W p l e (rmU 6 0 0) s m args below meth c H locs 0 0 (QI P (some .int) r.1 r.2 below args s) (F0 m 119 ls [.int t0, .ref (P.2.1 26)]) := by
    intro w x1 t0 h H locs ls hP hl
    unfold B_X6_run_119 at h
    refine vt_putI S hF hP (k := 8) (ci := 6) 26 (hlt _ (by decide)) rfl (by decide) rfl (by decide) rfl tyX6 tyX6_ok nmX6 rfl rfl rfl rfl (by decide) (inC_X6 _) (List.mem_cons_of_mem _ fl_X6_26) dX6_run_119 (fun H locs hP => ?_)
    exact hB122 _ _ h _ _ _ hP (lv_sub hl [0, 1] rfl)
  have hB103 : ∀ (w : Wo) (x1 : Int32), B_X6_run_103 w x1 = some r → ∀ (H : Heap) (locs : List Loc) (ls : Array Slot), St P s w H locs → lv_has ls 5 [(0, .ref (P.2.1 26)), (1, .int x1)] → W p l e (rmU 6 0 0) s m args below meth c H locs 0 0 (QI P (some .int) r.1 r.2 below args s) (F0 m 103 ls []) := by
    intro w x1 h H locs ls hP hl
    unfold B_X6_run_103 at h
    refine lv_aload_n hx hb dX6_run_103 rfl (lv_at hl 0 rfl) ?_
    refine lv_aload_n hx hb dX6_run_104 rfl (lv_at hl 0 rfl) ?_
    refine vt_getI S hF hP (k := 19) (ci := 6) 26 (hlt _ (by decide)) rfl (by decide) rfl (by decide) rfl (inC_X6 _) (List.mem_cons_of_mem _ fl_X6_238) dX6_run_105 ?_
    refine lv_if_eq (tgt := 118) hx hb dX6_run_108 (by decide) (fun c19 => ?_) (fun c19 => ?_)
    · rw [if_pos c19] at h
      refine lv_iconst (v := (-1)) hx hb dX6_run_118 (by decide) ?_
      exact hB119 _ _ _ h _ _ _ hP (lv_sub hl [0, 1] rfl)
    · rw [if_neg c19] at h
      refine lv_aload_n hx hb dX6_run_111 rfl (lv_at hl 0 rfl) ?_
      refine vt_getI S hF hP (k := 18) (ci := 6) 26 (hlt _ (by decide)) rfl (by decide) rfl (by decide) rfl (inC_X6 _) (List.mem_cons_of_mem _ fl_X6_235) dX6_run_112 ?_
      refine lv_goto (tgt := 119) hx hb dX6_run_115 (by decide) ?_
      exact hB119 _ _ _ h _ _ _ hP (lv_sub hl [0, 1] rfl)
  have hB98 : ∀ (w : Wo) (x1 : Int32), B_X6_run_98 w x1 = some r → ∀ (H : Heap) (locs : List Loc) (ls : Array Slot), St P s w H locs → lv_has ls 5 [(0, .ref (P.2.1 26)), (1, .int x1)] → W p l e (rmU 6 0 0) s m args below meth c H locs 0 0 (QI P (some .int) r.1 r.2 below args s) (F0 m 98 ls []) := by
    intro w x1 h H locs ls hP hl
    unfold B_X6_run_98 at h
    refine lv_aload_n hx hb dX6_run_98 rfl (lv_at hl 0 rfl) ?_
    refine lv_iconst (v := 0) hx hb dX6_run_99 (by decide) ?_
    refine vt_putI S hF hP (k := 7) (ci := 6) 26 (hlt _ (by decide)) rfl (by decide) rfl (by decide) rfl tyX6 tyX6_ok nmX6 rfl rfl rfl rfl (by decide) (inC_X6 _) (List.mem_cons_of_mem _ fl_X6_232) dX6_run_100 (fun H locs hP => ?_)
    exact hB103 _ _ h _ _ _ hP (lv_sub hl [0, 1] rfl)
  have hB95 : ∀ (w : Wo) (x1 : Int32) (t0 : Int32), B_X6_run_95 w x1 t0 = some r → ∀ (H : Heap) (locs : List Loc) (ls : Array Slot), St P s w H locs → lv_has ls 5 [(0, .ref (P.2.1 26)), (1, .int x1)] → W p l e (rmU 6 0 0) s m args below meth c H locs 0 0 (QI P (some .int) r.1 r.2 below args s) (F0 m 95 ls [.int t0, .ref (P.2.1 26)]) := by
    intro w x1 t0 h H locs ls hP hl
    unfold B_X6_run_95 at h
    obtain ⟨c20, h⟩ := chk h
    refine vt_putI S hF hP (k := 19) (ci := 6) 26 (hlt _ (by decide)) rfl (by decide) rfl (by decide) rfl tyX6 tyX6_ok nmX6 rfl rfl (nar_z c20) (fit_z c20) (by decide) (inC_X6 _) (List.mem_cons_of_mem _ fl_X6_238) dX6_run_95 (fun H locs hP => ?_)
    exact hB98 _ _ h _ _ _ hP (lv_sub hl [0, 1] rfl)
  have hB90 : ∀ (w : Wo) (x1 : Int32), B_X6_run_90 w x1 = some r → ∀ (H : Heap) (locs : List Loc) (ls : Array Slot), St P s w H locs → lv_has ls 5 [(0, .ref (P.2.1 26)), (1, .int x1)] → W p l e (rmU 6 0 0) s m args below meth c H locs 0 0 (QI P (some .int) r.1 r.2 below args s) (F0 m 90 ls [.ref (P.2.1 26)]) := by
    intro w x1 h H locs ls hP hl
    unfold B_X6_run_90 at h
    refine lv_iconst (v := 1) hx hb dX6_run_90 (by decide) ?_
    refine lv_goto (tgt := 95) hx hb dX6_run_91 (by decide) ?_
    exact hB95 _ _ _ h _ _ _ hP (lv_sub hl [0, 1] rfl)
  have hB71 : ∀ (w : Wo) (x1 : Int32), B_X6_run_71 w x1 = some r → ∀ (H : Heap) (locs : List Loc) (ls : Array Slot), St P s w H locs → lv_has ls 5 [(0, .ref (P.2.1 26)), (1, .int x1)] → W p l e (rmU 6 0 0) s m args below meth c H locs 0 0 (QI P (some .int) r.1 r.2 below args s) (F0 m 71 ls []) := by
    intro w x1 h H locs ls hP hl
    unfold B_X6_run_71 at h
    refine lv_aload_n hx hb dX6_run_71 rfl (lv_at hl 0 rfl) ?_
    refine lv_aload_n hx hb dX6_run_72 rfl (lv_at hl 0 rfl) ?_
    refine vt_getI S hF hP (k := 19) (ci := 6) 26 (hlt _ (by decide)) rfl (by decide) rfl (by decide) rfl (inC_X6 _) (List.mem_cons_of_mem _ fl_X6_238) dX6_run_73 ?_
    refine lv_if_ne (tgt := 90) hx hb dX6_run_76 (by decide) (fun c21 => ?_) (fun c21 => ?_)
    · rw [if_neg c21] at h
      exact hB90 _ _ h _ _ _ hP (lv_sub hl [0, 1] rfl)
    · rw [if_pos c21] at h
      refine lv_aload_n hx hb dX6_run_79 rfl (lv_at hl 0 rfl) ?_
      refine vt_getI S hF hP (k := 18) (ci := 6) 26 (hlt _ (by decide)) rfl (by decide) rfl (by decide) rfl (inC_X6 _) (List.mem_cons_of_mem _ fl_X6_235) dX6_run_80 ?_
      refine lv_aload_n hx hb dX6_run_83 rfl (lv_at hl 0 rfl) ?_
      refine vt_getI S hF hP (k := 7) (ci := 6) 26 (hlt _ (by decide)) rfl (by decide) rfl (by decide) rfl (inC_X6 _) (List.mem_cons_of_mem _ fl_X6_232) dX6_run_84 ?_
      refine lv_icmp_ge (tgt := 94) hx hb dX6_run_87 (by decide) (fun c22 => ?_) (fun c22 => ?_)
      · rw [if_pos c22] at h
        refine lv_iconst (v := 0) hx hb dX6_run_94 (by decide) ?_
        exact hB95 _ _ _ h _ _ _ hP (lv_sub hl [0, 1] rfl)
      · rw [if_neg c22] at h
        exact hB90 _ _ h _ _ _ hP (lv_sub hl [0, 1] rfl)
  have hL14 : ∀ (n : Nat) (w : Wo) (x1 : Int32) (x2 : Int32), jl3 (B_X6_run_14) n w x1 x2 = some r → ∀ (H : Heap) (locs : List Loc) (ls : Array Slot), St P s w H locs → lv_has ls 5 [(0, .ref (P.2.1 26)), (1, .int x1), (2, .int x2)] → W p l e (rmU 6 0 0) s m args below meth c H locs 0 0 (QI P (some .int) r.1 r.2 below args s) (F0 m 14 ls []) := by
    intro n
    induction n with
    | zero =>
      intro w x1 x2 h
      cases h
    | succ n ih14 =>
      intro w x1 x2 h H locs ls hP hl
      replace h : B_X6_run_14 (jl3 (B_X6_run_14) n) w x1 x2 = some r := h
      revert h ih14
      generalize jl3 (B_X6_run_14) n = k14
      intro ih14 h
      have hB64 : ∀ (w : Wo) (x1 : Int32) (x2 : Int32) (t0 : Int32) (t1 : Int32), B_X6_run_64 k14 w x1 x2 t0 t1 = some r → ∀ (H : Heap) (locs : List Loc) (ls : Array Slot), St P s w H locs → lv_has ls 5 [(0, .ref (P.2.1 26)), (1, .int x1), (2, .int x2)] → W p l e (rmU 6 0 0) s m args below meth c H locs 0 0 (QI P (some .int) r.1 r.2 below args s) (F0 m 64 ls [.int t0, .int t1, .ref (P.2.1 26)]) := by
        intro w x1 x2 t0 t1 h H locs ls hP hl
        unfold B_X6_run_64 at h
        refine lv_iadd hx hb dX6_run_64 ?_
        refine vt_putI S hF hP (k := 18) (ci := 6) 26 (hlt _ (by decide)) rfl (by decide) rfl (by decide) rfl tyX6 tyX6_ok nmX6 rfl rfl rfl rfl (by decide) (inC_X6 _) (List.mem_cons_of_mem _ fl_X6_235) dX6_run_65 (fun H locs hP => ?_)
        refine lv_goto (tgt := 14) hx hb dX6_run_68 (by decide) ?_
        exact ih14 _ _ _ h _ _ _ hP (lv_sub hl [0, 1, 2] rfl)
      have hB49 : ∀ (w : Wo) (x1 : Int32) (t0 : Int32), B_X6_run_49 k14 w x1 t0 = some r → ∀ (H : Heap) (locs : List Loc) (ls : Array Slot), St P s w H locs → lv_has ls 5 [(0, .ref (P.2.1 26)), (1, .int x1)] → W p l e (rmU 6 0 0) s m args below meth c H locs 0 0 (QI P (some .int) r.1 r.2 below args s) (F0 m 49 ls [.int t0]) := by
        intro w x1 t0 h H locs ls hP hl
        unfold B_X6_run_49 at h
        refine lv_istore_n (lv' := [(2, .int t0), (0, .ref (P.2.1 26)), (1, .int x1)]) hx hb dX6_run_49 rfl hl (by decide) rfl (fun ls hl => ?_)
        refine lv_aload_n hx hb dX6_run_50 rfl (lv_at hl 1 rfl) ?_
        refine lv_dup hx hb dX6_run_51 rfl ?_
        refine vt_getI S hF hP (k := 18) (ci := 6) 26 (hlt _ (by decide)) rfl (by decide) rfl (by decide) rfl (inC_X6 _) (List.mem_cons_of_mem _ fl_X6_235) dX6_run_52 ?_
        refine lv_iload_n hx hb dX6_run_55 rfl (lv_at hl 0 rfl) ?_
        refine lv_if_eq (tgt := 63) hx hb dX6_run_56 (by decide) (fun c23 => ?_) (fun c23 => ?_)
        · rw [if_pos c23] at h
          refine lv_iconst (v := 0) hx hb dX6_run_63 (by decide) ?_
          exact hB64 _ _ _ _ _ h _ _ _ hP (lv_sub hl [1, 2, 0] rfl)
        · rw [if_neg c23] at h
          refine lv_iconst (v := 1) hx hb dX6_run_59 (by decide) ?_
          refine lv_goto (tgt := 64) hx hb dX6_run_60 (by decide) ?_
          exact hB64 _ _ _ _ _ h _ _ _ hP (lv_sub hl [1, 2, 0] rfl)
      have hB48 : ∀ (w : Wo) (x1 : Int32), B_X6_run_48 k14 w x1 = some r → ∀ (H : Heap) (locs : List Loc) (ls : Array Slot), St P s w H locs → lv_has ls 5 [(0, .ref (P.2.1 26)), (1, .int x1)] → W p l e (rmU 6 0 0) s m args below meth c H locs 0 0 (QI P (some .int) r.1 r.2 below args s) (F0 m 48 ls []) := by
        intro w x1 h H locs ls hP hl
        unfold B_X6_run_48 at h
        refine lv_iconst (v := 0) hx hb dX6_run_48 (by decide) ?_
        exact hB49 _ _ _ h _ _ _ hP (lv_sub hl [0, 1] rfl)
      unfold B_X6_run_14 at h
      refine lv_iload_n hx hb dX6_run_14 rfl (lv_at hl 2 rfl) ?_
      refine lv_if_eq (tgt := 71) hx hb dX6_run_15 (by decide) (fun c24 => ?_) (fun c24 => ?_)
      · rw [if_pos c24] at h
        exact hB71 _ _ h _ _ _ hP (lv_sub hl [0, 1] rfl)
      · rw [if_neg c24] at h
        refine lv_aload_n hx hb dX6_run_18 rfl (lv_at hl 0 rfl) ?_
        refine lv_iconst (v := 3) hx hb dX6_run_19 (by decide) ?_
        refine lv_iload_n hx hb dX6_run_20 rfl (lv_at hl 1 rfl) ?_
        refine lv_imul hx hb dX6_run_21 ?_
        obtain ⟨q12, hq12, h⟩ := ob h
        refine vu_v hP (vu_V S hF hP (h := 26) (hlt _ (by decide)) rfl (by decide) rfl (c_X6_readsOrder l P hA hn w ((3 : Int32) * x1) hq12) ok_X6_readsOrder ml_X6_254 ⟨Nat.le_of_ble_eq_true rfl, Nat.le_of_ble_eq_true rfl⟩ rfl hl.1 rfl (Nat.le_of_ble_eq_true rfl) dX6_run_22 ⟨Nat.le_of_ble_eq_true rfl, Nat.le_of_ble_eq_true rfl⟩) (fun H locs hP => ?_)
        refine lv_iinc (v := (x1 + 1)) (lv' := [(1, .int (x1 + 1)), (0, .ref (P.2.1 26)), (2, .int x2)]) hx hb dX6_run_25 hl (k := 1) rfl rfl (by decide) rfl (fun ls hl => ?_)
        refine lv_aload_n hx hb dX6_run_28 rfl (lv_at hl 1 rfl) ?_
        refine vt_getI S hF hP (k := 19) (ci := 6) 26 (hlt _ (by decide)) rfl (by decide) rfl (by decide) rfl (inC_X6 _) (List.mem_cons_of_mem _ fl_X6_238) dX6_run_29 ?_
        refine lv_if_ne (tgt := 48) hx hb dX6_run_32 (by decide) (fun c25 => ?_) (fun c25 => ?_)
        · rw [if_neg c25] at h
          exact hB48 _ _ h _ _ _ hP (lv_sub hl [1, 0] rfl)
        · rw [if_pos c25] at h
          refine lv_aload_n hx hb dX6_run_35 rfl (lv_at hl 1 rfl) ?_
          obtain ⟨q13, hq13, h⟩ := ob h
          refine vu_i hP (vu_V S hF hP (h := 26) (hlt _ (by decide)) rfl (by decide) rfl (c_X6_here l P hA hn q12 hq13) ok_X6_here ml_X6_241 ⟨Nat.le_of_ble_eq_true rfl, Nat.le_of_ble_eq_true rfl⟩ rfl hl.1 rfl (Nat.le_of_ble_eq_true rfl) dX6_run_36 ⟨Nat.le_of_ble_eq_true rfl, Nat.le_of_ble_eq_true rfl⟩) (fun H locs ho14 hP => ?_)
          refine lv_bipush (v := 59) hx hb dX6_run_39 (by decide) ?_
          refine lv_icmp_ne (tgt := 48) hx hb dX6_run_41 (by decide) (fun c26 => ?_) (fun c26 => ?_)
          · rw [if_neg c26] at h
            exact hB48 _ _ h _ _ _ hP (lv_sub hl [1, 0] rfl)
          · rw [if_pos c26] at h
            refine lv_iconst (v := 1) hx hb dX6_run_44 (by decide) ?_
            refine lv_goto (tgt := 49) hx hb dX6_run_45 (by decide) ?_
            exact hB49 _ _ _ h _ _ _ hP (lv_sub hl [1, 0] rfl)
  have hB10 : ∀ (w : Wo), B_X6_run_10 w = some r → ∀ (H : Heap) (locs : List Loc) (ls : Array Slot), St P s w H locs → lv_has ls 5 [(0, .ref (P.2.1 26))] → W p l e (rmU 6 0 0) s m args below meth c H locs 0 0 (QI P (some .int) r.1 r.2 below args s) (F0 m 10 ls []) := by
    intro w h H locs ls hP hl
    unfold B_X6_run_10 at h
    refine lv_iconst (v := 0) hx hb dX6_run_10 (by decide) ?_
    refine lv_istore_n (lv' := [(1, .int 0), (0, .ref (P.2.1 26))]) hx hb dX6_run_11 rfl hl (by decide) rfl (fun ls hl => ?_)
    refine lv_iconst (v := 1) hx hb dX6_run_12 (by decide) ?_
    refine lv_istore_n (lv' := [(2, .int 1), (1, .int 0), (0, .ref (P.2.1 26))]) hx hb dX6_run_13 rfl hl (by decide) rfl (fun ls hl => ?_)
    exact hL14 fu _ _ _ h _ _ _ hP (lv_sub hl [2, 1, 0] rfl)
  have hB5 : ∀ (w : Wo), B_X6_run_5 w = some r → ∀ (H : Heap) (locs : List Loc) (ls : Array Slot), St P s w H locs → lv_has ls 5 [(0, .ref (P.2.1 26))] → W p l e (rmU 6 0 0) s m args below meth c H locs 0 0 (QI P (some .int) r.1 r.2 below args s) (F0 m 5 ls []) := by
    intro w h H locs ls hP hl
    unfold B_X6_run_5 at h
    refine lv_aload_n hx hb dX6_run_5 rfl (lv_at hl 0 rfl) ?_
    refine lv_iconst (v := 0) hx hb dX6_run_6 (by decide) ?_
    refine vt_putI S hF hP (k := 19) (ci := 6) 26 (hlt _ (by decide)) rfl (by decide) rfl (by decide) rfl tyX6 tyX6_ok nmX6 rfl rfl rfl rfl (by decide) (inC_X6 _) (List.mem_cons_of_mem _ fl_X6_238) dX6_run_7 (fun H locs hP => ?_)
    exact hB10 _ h _ _ _ hP (lv_sub hl [0] rfl)
  unfold F_X6_run at h
  refine lv_aload_n hx hb dX6_run_0 rfl (lv_at hl 0 rfl) ?_
  refine lv_iconst (v := 0) hx hb dX6_run_1 (by decide) ?_
  refine vt_putI S hF hP (k := 18) (ci := 6) 26 (hlt _ (by decide)) rfl (by decide) rfl (by decide) rfl tyX6 tyX6_ok nmX6 rfl rfl rfl rfl (by decide) (inC_X6 _) (List.mem_cons_of_mem _ fl_X6_235) dX6_run_2 (fun H locs hP => ?_)
  exact hB5 _ h _ _ _ hP (lv_sub hl [0] rfl)
set_option maxRecDepth 100000 in
set_option maxHeartbeats 4000000 in
theorem c_X6_errorPosition (l : Launch) (P : Pl) (hA : Adr P) (hn : 36 ≤ P.2.2.2.1) (w : Wo) {r : Int32 × Wo} (h : F_X6_errorPosition w = some r) : CtI l P yX6_errorPosition cX6_errorPosition 1 (some .int) 1 [.ref (P.2.1 26)] w r.1 r.2 := by
  have hlt : ∀ h, h < 36 → h < P.2.2.2.1 := fun h q => Nat.lt_of_lt_of_le q hn
  refine vs_met hA (by decide +kernel) (Nat.le_of_ble_eq_true rfl) (fun p e s m args below meth c ls S hF hP hl hr hk => ?_)
  have hx := S.1
  have hb := S.2.1
  replace hl : lv_has ls 1 [(0, .ref (P.2.1 26))] := hl
  unfold F_X6_errorPosition at h
  refine lv_aload_n hx hb dX6_errorPosition_0 rfl (lv_at hl 0 rfl) ?_
  refine lv_aload_n hx hb dX6_errorPosition_1 rfl (lv_at hl 0 rfl) ?_
  refine vt_getI S hF hP (k := 8) (ci := 6) 26 (hlt _ (by decide)) rfl (by decide) rfl (by decide) rfl (inC_X6 _) (List.mem_cons_of_mem _ fl_X6_26) dX6_errorPosition_2 ?_
  obtain ⟨q1, hq1, h⟩ := ob h
  refine vu_i hP (vu_V S hF hP (h := 26) (hlt _ (by decide)) rfl (by decide) rfl (c_X6_done l P hA hn w (gI w 26 8) hq1) ok_X6_done ml_X6_81 ⟨Nat.le_of_ble_eq_true rfl, Nat.le_of_ble_eq_true rfl⟩ rfl hl.1 rfl (Nat.le_of_ble_eq_true rfl) dX6_errorPosition_5 ⟨Nat.le_of_ble_eq_true rfl, Nat.le_of_ble_eq_true rfl⟩) (fun H locs ho2 hP => ?_)
  obtain rfl := Option.some.inj h
  exact ve_i (v := q1.1) S hF hP hr hk rfl dX6_errorPosition_8
set_option maxRecDepth 100000 in
set_option maxHeartbeats 4000000 in
theorem c_X6_refusal (l : Launch) (P : Pl) (hA : Adr P) (hn : 36 ≤ P.2.2.2.1) (w : Wo) (x1 : Int32) {r : Int32 × Wo} (h : F_X6_refusal w x1 = some r) : CtI l P yX6_refusal cX6_refusal 2 (some .int) 1 [.ref (P.2.1 26), .int x1] w r.1 r.2 := by
  have hlt : ∀ h, h < 36 → h < P.2.2.2.1 := fun h q => Nat.lt_of_lt_of_le q hn
  refine vs_met hA (by decide +kernel) (Nat.le_of_ble_eq_true rfl) (fun p e s m args below meth c ls S hF hP hl hr hk => ?_)
  have hx := S.1
  have hb := S.2.1
  replace hl : lv_has ls 2 [(0, .ref (P.2.1 26)), (1, .int x1)] := hl
  have hB31 : ∀ (w : Wo) (t0 : Int32), B_X6_refusal_31 w t0 = some r → ∀ (H : Heap) (locs : List Loc) (ls : Array Slot), St P s w H locs → lv_has ls 2 [] → W p l e (rmU 1 0 0) s m args below meth c H locs 0 0 (QI P (some .int) r.1 r.2 below args s) (F0 m 31 ls [.int t0, .ref (P.2.1 26)]) := by
    intro w t0 h H locs ls hP hl
    unfold B_X6_refusal_31 at h
    obtain ⟨q1, hq1, h⟩ := ob h
    refine vu_i hP (vu_V S hF hP (h := 26) (hlt _ (by decide)) rfl (by decide) rfl (c_X6_done l P hA hn w t0 hq1) ok_X6_done ml_X6_81 ⟨Nat.le_of_ble_eq_true rfl, Nat.le_of_ble_eq_true rfl⟩ rfl hl.1 rfl (Nat.le_of_ble_eq_true rfl) dX6_refusal_31 ⟨Nat.le_of_ble_eq_true rfl, Nat.le_of_ble_eq_true rfl⟩) (fun H locs ho2 hP => ?_)
    obtain rfl := Option.some.inj h
    exact ve_i (v := q1.1) S hF hP hr hk rfl dX6_refusal_34
  unfold F_X6_refusal at h
  refine lv_aload_n hx hb dX6_refusal_0 rfl (lv_at hl 0 rfl) ?_
  refine vt_getI S hF hP (k := 9) (ci := 6) 26 (hlt _ (by decide)) rfl (by decide) rfl (by decide) rfl (inC_X6 _) (List.mem_cons_of_mem _ fl_X6_53) dX6_refusal_1 ?_
  refine lv_if_ne (tgt := 15) hx hb dX6_refusal_4 (by decide) (fun c5 => ?_) (fun c5 => ?_)
  · rw [if_neg c5] at h
    refine lv_aload_n hx hb dX6_refusal_15 rfl (lv_at hl 0 rfl) ?_
    refine lv_iload_n hx hb dX6_refusal_16 rfl (lv_at hl 1 rfl) ?_
    refine lv_if_eq (tgt := 27) hx hb dX6_refusal_17 (by decide) (fun c6 => ?_) (fun c6 => ?_)
    · rw [if_pos c6] at h
      refine lv_aload_n hx hb dX6_refusal_27 rfl (lv_at hl 0 rfl) ?_
      refine vt_getI S hF hP (k := 9) (ci := 6) 26 (hlt _ (by decide)) rfl (by decide) rfl (by decide) rfl (inC_X6 _) (List.mem_cons_of_mem _ fl_X6_53) dX6_refusal_28 ?_
      exact hB31 _ _ h _ _ _ hP (lv_sub hl [] rfl)
    · rw [if_neg c6] at h
      refine lv_aload_n hx hb dX6_refusal_20 rfl (lv_at hl 0 rfl) ?_
      refine vt_getI S hF hP (k := 10) (ci := 6) 26 (hlt _ (by decide)) rfl (by decide) rfl (by decide) rfl (inC_X6 _) (List.mem_cons_of_mem _ fl_X6_56) dX6_refusal_21 ?_
      refine lv_goto (tgt := 31) hx hb dX6_refusal_24 (by decide) ?_
      exact hB31 _ _ h _ _ _ hP (lv_sub hl [] rfl)
  · rw [if_pos c5] at h
    refine lv_aload_n hx hb dX6_refusal_7 rfl (lv_at hl 0 rfl) ?_
    refine lv_iconst (v := 1) hx hb dX6_refusal_8 (by decide) ?_
    obtain ⟨q3, hq3, h⟩ := ob h
    refine vu_i hP (vu_V S hF hP (h := 26) (hlt _ (by decide)) rfl (by decide) rfl (c_X6_fails l P hA hn w 1 hq3) ok_X6_fails ml_X6_77 ⟨Nat.le_of_ble_eq_true rfl, Nat.le_of_ble_eq_true rfl⟩ rfl hl.1 rfl (Nat.le_of_ble_eq_true rfl) dX6_refusal_9 ⟨Nat.le_of_ble_eq_true rfl, Nat.le_of_ble_eq_true rfl⟩) (fun H locs ho4 hP => ?_)
    refine lv_goto (tgt := 34) hx hb dX6_refusal_12 (by decide) ?_
    obtain rfl := Option.some.inj h
    exact ve_i (v := q3.1) S hF hP hr hk rfl dX6_refusal_34
set_option maxRecDepth 100000 in
set_option maxHeartbeats 4000000 in
theorem c_X6_account (l : Launch) (P : Pl) (hA : Adr P) (hn : 36 ≤ P.2.2.2.1) (w : Wo) (x1 : Int32) {r : Int32 × Wo} (h : F_X6_account w x1 = some r) : CtI l P yX6_account cX6_account 2 (some .int) 2 [.ref (P.2.1 26), .int x1] w r.1 r.2 := by
  have hlt : ∀ h, h < 36 → h < P.2.2.2.1 := fun h q => Nat.lt_of_lt_of_le q hn
  refine vs_met hA (by decide +kernel) (Nat.le_of_ble_eq_true rfl) (fun p e s m args below meth c ls S hF hP hl hr hk => ?_)
  have hx := S.1
  have hb := S.2.1
  replace hl : lv_has ls 2 [(0, .ref (P.2.1 26)), (1, .int x1)] := hl
  unfold F_X6_account at h
  refine lv_iload_n hx hb dX6_account_0 rfl (lv_at hl 1 rfl) ?_
  by_cases c27 : x1 = 0
  · rw [if_pos c27] at h
    refine lv_tableIn (off := 55) (tgt := 56) hx hb dX6_account_1 (by rw [c27]; decide) (by rw [c27]; decide) (by rw [c27]; rfl) (by decide) ?_
    refine lv_aload_n hx hb dX6_account_56 rfl (lv_at hl 0 rfl) ?_
    refine lv_aload_n hx hb dX6_account_57 rfl (lv_at hl 0 rfl) ?_
    obtain ⟨q1, hq1, h⟩ := ob h
    refine vu_i hP (vu_V S hF hP (h := 26) (hlt _ (by decide)) rfl (by decide) rfl (c_X6_places l P hA hn w hq1) ok_X6_places ml_X6_66 ⟨Nat.le_of_ble_eq_true rfl, Nat.le_of_ble_eq_true rfl⟩ rfl hl.1 rfl (Nat.le_of_ble_eq_true rfl) dX6_account_58 ⟨Nat.le_of_ble_eq_true rfl, Nat.le_of_ble_eq_true rfl⟩) (fun H locs ho2 hP => ?_)
    obtain ⟨q3, hq3, h⟩ := ob h
    refine vu_i hP (vu_V S hF hP (h := 26) (hlt _ (by decide)) rfl (by decide) rfl (c_X6_done l P hA hn w q1 hq3) ok_X6_done ml_X6_81 ⟨Nat.le_of_ble_eq_true rfl, Nat.le_of_ble_eq_true rfl⟩ rfl hl.1 rfl (Nat.le_of_ble_eq_true rfl) dX6_account_61 ⟨Nat.le_of_ble_eq_true rfl, Nat.le_of_ble_eq_true rfl⟩) (fun H locs ho4 hP => ?_)
    obtain rfl := Option.some.inj h
    exact ve_i (v := q3.1) S hF hP hr hk rfl dX6_account_64
  rw [if_neg c27] at h
  by_cases c28 : x1 = 1
  · rw [if_pos c28] at h
    refine lv_tableIn (off := 64) (tgt := 65) hx hb dX6_account_1 (by rw [c28]; decide) (by rw [c28]; decide) (by rw [c28]; rfl) (by decide) ?_
    refine lv_aload_n hx hb dX6_account_65 rfl (lv_at hl 0 rfl) ?_
    refine lv_aload_n hx hb dX6_account_66 rfl (lv_at hl 0 rfl) ?_
    obtain ⟨q5, hq5, h⟩ := ob h
    refine vu_i hP (vu_V S hF hP (h := 26) (hlt _ (by decide)) rfl (by decide) rfl (c_X6_barredLines l P hA hn w hq5) ok_X6_barredLines ml_X6_193 ⟨Nat.le_of_ble_eq_true rfl, Nat.le_of_ble_eq_true rfl⟩ rfl hl.1 rfl (Nat.le_of_ble_eq_true rfl) dX6_account_67 ⟨Nat.le_of_ble_eq_true rfl, Nat.le_of_ble_eq_true rfl⟩) (fun H locs ho6 hP => ?_)
    obtain ⟨q7, hq7, h⟩ := ob h
    refine vu_i hP (vu_V S hF hP (h := 26) (hlt _ (by decide)) rfl (by decide) rfl (c_X6_done l P hA hn w q5 hq7) ok_X6_done ml_X6_81 ⟨Nat.le_of_ble_eq_true rfl, Nat.le_of_ble_eq_true rfl⟩ rfl hl.1 rfl (Nat.le_of_ble_eq_true rfl) dX6_account_70 ⟨Nat.le_of_ble_eq_true rfl, Nat.le_of_ble_eq_true rfl⟩) (fun H locs ho8 hP => ?_)
    obtain rfl := Option.some.inj h
    exact ve_i (v := q7.1) S hF hP hr hk rfl dX6_account_73
  rw [if_neg c28] at h
  by_cases c29 : x1 = 2
  · rw [if_pos c29] at h
    refine lv_tableIn (off := 73) (tgt := 74) hx hb dX6_account_1 (by rw [c29]; decide) (by rw [c29]; decide) (by rw [c29]; rfl) (by decide) ?_
    refine lv_aload_n hx hb dX6_account_74 rfl (lv_at hl 0 rfl) ?_
    refine lv_aload_n hx hb dX6_account_75 rfl (lv_at hl 0 rfl) ?_
    refine vt_getR (r := 27) S hF hP (k := 0) (ci := 6) 26 (hlt _ (by decide)) rfl (by decide) rfl (by decide) rfl rfl (inC_X6 _) (List.mem_cons_of_mem _ fl_X6_7) dX6_account_76 ?_
    refine lv_iload_n hx hb dX6_account_79 rfl (lv_at hl 1 rfl) ?_
    obtain ⟨c30, h⟩ := chk h
    refine vt_iald S hF hP (hlt _ (by decide)) rfl c30 dX6_account_80 ?_
    obtain ⟨q9, hq9, h⟩ := ob h
    refine vu_i hP (vu_V S hF hP (h := 26) (hlt _ (by decide)) rfl (by decide) rfl (c_X6_done l P hA hn w (gI w 27 (Int32.toNatClampNeg x1)) hq9) ok_X6_done ml_X6_81 ⟨Nat.le_of_ble_eq_true rfl, Nat.le_of_ble_eq_true rfl⟩ rfl hl.1 rfl (Nat.le_of_ble_eq_true rfl) dX6_account_81 ⟨Nat.le_of_ble_eq_true rfl, Nat.le_of_ble_eq_true rfl⟩) (fun H locs ho10 hP => ?_)
    obtain rfl := Option.some.inj h
    exact ve_i (v := q9.1) S hF hP hr hk rfl dX6_account_84
  rw [if_neg c29] at h
  by_cases c31 : x1 = 3
  · rw [if_pos c31] at h
    refine lv_tableIn (off := 73) (tgt := 74) hx hb dX6_account_1 (by rw [c31]; decide) (by rw [c31]; decide) (by rw [c31]; rfl) (by decide) ?_
    refine lv_aload_n hx hb dX6_account_74 rfl (lv_at hl 0 rfl) ?_
    refine lv_aload_n hx hb dX6_account_75 rfl (lv_at hl 0 rfl) ?_
    refine vt_getR (r := 27) S hF hP (k := 0) (ci := 6) 26 (hlt _ (by decide)) rfl (by decide) rfl (by decide) rfl rfl (inC_X6 _) (List.mem_cons_of_mem _ fl_X6_7) dX6_account_76 ?_
    refine lv_iload_n hx hb dX6_account_79 rfl (lv_at hl 1 rfl) ?_
    obtain ⟨c32, h⟩ := chk h
    refine vt_iald S hF hP (hlt _ (by decide)) rfl c32 dX6_account_80 ?_
    obtain ⟨q11, hq11, h⟩ := ob h
    refine vu_i hP (vu_V S hF hP (h := 26) (hlt _ (by decide)) rfl (by decide) rfl (c_X6_done l P hA hn w (gI w 27 (Int32.toNatClampNeg x1)) hq11) ok_X6_done ml_X6_81 ⟨Nat.le_of_ble_eq_true rfl, Nat.le_of_ble_eq_true rfl⟩ rfl hl.1 rfl (Nat.le_of_ble_eq_true rfl) dX6_account_81 ⟨Nat.le_of_ble_eq_true rfl, Nat.le_of_ble_eq_true rfl⟩) (fun H locs ho12 hP => ?_)
    obtain rfl := Option.some.inj h
    exact ve_i (v := q11.1) S hF hP hr hk rfl dX6_account_84
  rw [if_neg c31] at h
  by_cases c33 : x1 = 4
  · rw [if_pos c33] at h
    refine lv_tableIn (off := 73) (tgt := 74) hx hb dX6_account_1 (by rw [c33]; decide) (by rw [c33]; decide) (by rw [c33]; rfl) (by decide) ?_
    refine lv_aload_n hx hb dX6_account_74 rfl (lv_at hl 0 rfl) ?_
    refine lv_aload_n hx hb dX6_account_75 rfl (lv_at hl 0 rfl) ?_
    refine vt_getR (r := 27) S hF hP (k := 0) (ci := 6) 26 (hlt _ (by decide)) rfl (by decide) rfl (by decide) rfl rfl (inC_X6 _) (List.mem_cons_of_mem _ fl_X6_7) dX6_account_76 ?_
    refine lv_iload_n hx hb dX6_account_79 rfl (lv_at hl 1 rfl) ?_
    obtain ⟨c34, h⟩ := chk h
    refine vt_iald S hF hP (hlt _ (by decide)) rfl c34 dX6_account_80 ?_
    obtain ⟨q13, hq13, h⟩ := ob h
    refine vu_i hP (vu_V S hF hP (h := 26) (hlt _ (by decide)) rfl (by decide) rfl (c_X6_done l P hA hn w (gI w 27 (Int32.toNatClampNeg x1)) hq13) ok_X6_done ml_X6_81 ⟨Nat.le_of_ble_eq_true rfl, Nat.le_of_ble_eq_true rfl⟩ rfl hl.1 rfl (Nat.le_of_ble_eq_true rfl) dX6_account_81 ⟨Nat.le_of_ble_eq_true rfl, Nat.le_of_ble_eq_true rfl⟩) (fun H locs ho14 hP => ?_)
    obtain rfl := Option.some.inj h
    exact ve_i (v := q13.1) S hF hP hr hk rfl dX6_account_84
  rw [if_neg c33] at h
  by_cases c35 : x1 = 5
  · rw [if_pos c35] at h
    refine lv_tableIn (off := 73) (tgt := 74) hx hb dX6_account_1 (by rw [c35]; decide) (by rw [c35]; decide) (by rw [c35]; rfl) (by decide) ?_
    refine lv_aload_n hx hb dX6_account_74 rfl (lv_at hl 0 rfl) ?_
    refine lv_aload_n hx hb dX6_account_75 rfl (lv_at hl 0 rfl) ?_
    refine vt_getR (r := 27) S hF hP (k := 0) (ci := 6) 26 (hlt _ (by decide)) rfl (by decide) rfl (by decide) rfl rfl (inC_X6 _) (List.mem_cons_of_mem _ fl_X6_7) dX6_account_76 ?_
    refine lv_iload_n hx hb dX6_account_79 rfl (lv_at hl 1 rfl) ?_
    obtain ⟨c36, h⟩ := chk h
    refine vt_iald S hF hP (hlt _ (by decide)) rfl c36 dX6_account_80 ?_
    obtain ⟨q15, hq15, h⟩ := ob h
    refine vu_i hP (vu_V S hF hP (h := 26) (hlt _ (by decide)) rfl (by decide) rfl (c_X6_done l P hA hn w (gI w 27 (Int32.toNatClampNeg x1)) hq15) ok_X6_done ml_X6_81 ⟨Nat.le_of_ble_eq_true rfl, Nat.le_of_ble_eq_true rfl⟩ rfl hl.1 rfl (Nat.le_of_ble_eq_true rfl) dX6_account_81 ⟨Nat.le_of_ble_eq_true rfl, Nat.le_of_ble_eq_true rfl⟩) (fun H locs ho16 hP => ?_)
    obtain rfl := Option.some.inj h
    exact ve_i (v := q15.1) S hF hP hr hk rfl dX6_account_84
  rw [if_neg c35] at h
  by_cases c37 : x1 = 6
  · rw [if_pos c37] at h
    refine lv_tableIn (off := 73) (tgt := 74) hx hb dX6_account_1 (by rw [c37]; decide) (by rw [c37]; decide) (by rw [c37]; rfl) (by decide) ?_
    refine lv_aload_n hx hb dX6_account_74 rfl (lv_at hl 0 rfl) ?_
    refine lv_aload_n hx hb dX6_account_75 rfl (lv_at hl 0 rfl) ?_
    refine vt_getR (r := 27) S hF hP (k := 0) (ci := 6) 26 (hlt _ (by decide)) rfl (by decide) rfl (by decide) rfl rfl (inC_X6 _) (List.mem_cons_of_mem _ fl_X6_7) dX6_account_76 ?_
    refine lv_iload_n hx hb dX6_account_79 rfl (lv_at hl 1 rfl) ?_
    obtain ⟨c38, h⟩ := chk h
    refine vt_iald S hF hP (hlt _ (by decide)) rfl c38 dX6_account_80 ?_
    obtain ⟨q17, hq17, h⟩ := ob h
    refine vu_i hP (vu_V S hF hP (h := 26) (hlt _ (by decide)) rfl (by decide) rfl (c_X6_done l P hA hn w (gI w 27 (Int32.toNatClampNeg x1)) hq17) ok_X6_done ml_X6_81 ⟨Nat.le_of_ble_eq_true rfl, Nat.le_of_ble_eq_true rfl⟩ rfl hl.1 rfl (Nat.le_of_ble_eq_true rfl) dX6_account_81 ⟨Nat.le_of_ble_eq_true rfl, Nat.le_of_ble_eq_true rfl⟩) (fun H locs ho18 hP => ?_)
    obtain rfl := Option.some.inj h
    exact ve_i (v := q17.1) S hF hP hr hk rfl dX6_account_84
  rw [if_neg c37] at h
  by_cases c39 : x1 = 7
  · rw [if_pos c39] at h
    refine lv_tableIn (off := 73) (tgt := 74) hx hb dX6_account_1 (by rw [c39]; decide) (by rw [c39]; decide) (by rw [c39]; rfl) (by decide) ?_
    refine lv_aload_n hx hb dX6_account_74 rfl (lv_at hl 0 rfl) ?_
    refine lv_aload_n hx hb dX6_account_75 rfl (lv_at hl 0 rfl) ?_
    refine vt_getR (r := 27) S hF hP (k := 0) (ci := 6) 26 (hlt _ (by decide)) rfl (by decide) rfl (by decide) rfl rfl (inC_X6 _) (List.mem_cons_of_mem _ fl_X6_7) dX6_account_76 ?_
    refine lv_iload_n hx hb dX6_account_79 rfl (lv_at hl 1 rfl) ?_
    obtain ⟨c40, h⟩ := chk h
    refine vt_iald S hF hP (hlt _ (by decide)) rfl c40 dX6_account_80 ?_
    obtain ⟨q19, hq19, h⟩ := ob h
    refine vu_i hP (vu_V S hF hP (h := 26) (hlt _ (by decide)) rfl (by decide) rfl (c_X6_done l P hA hn w (gI w 27 (Int32.toNatClampNeg x1)) hq19) ok_X6_done ml_X6_81 ⟨Nat.le_of_ble_eq_true rfl, Nat.le_of_ble_eq_true rfl⟩ rfl hl.1 rfl (Nat.le_of_ble_eq_true rfl) dX6_account_81 ⟨Nat.le_of_ble_eq_true rfl, Nat.le_of_ble_eq_true rfl⟩) (fun H locs ho20 hP => ?_)
    obtain rfl := Option.some.inj h
    exact ve_i (v := q19.1) S hF hP hr hk rfl dX6_account_84
  rw [if_neg c39] at h
  by_cases c41 : x1 = 8
  · rw [if_pos c41] at h
    refine lv_tableIn (off := 84) (tgt := 85) hx hb dX6_account_1 (by rw [c41]; decide) (by rw [c41]; decide) (by rw [c41]; rfl) (by decide) ?_
    refine lv_aload_n hx hb dX6_account_85 rfl (lv_at hl 0 rfl) ?_
    refine lv_aload_n hx hb dX6_account_86 rfl (lv_at hl 0 rfl) ?_
    refine vt_getI S hF hP (k := 7) (ci := 6) 26 (hlt _ (by decide)) rfl (by decide) rfl (by decide) rfl (inC_X6 _) (List.mem_cons_of_mem _ fl_X6_232) dX6_account_87 ?_
    obtain ⟨q21, hq21, h⟩ := ob h
    refine vu_i hP (vu_V S hF hP (h := 26) (hlt _ (by decide)) rfl (by decide) rfl (c_X6_done l P hA hn w (gI w 26 7) hq21) ok_X6_done ml_X6_81 ⟨Nat.le_of_ble_eq_true rfl, Nat.le_of_ble_eq_true rfl⟩ rfl hl.1 rfl (Nat.le_of_ble_eq_true rfl) dX6_account_90 ⟨Nat.le_of_ble_eq_true rfl, Nat.le_of_ble_eq_true rfl⟩) (fun H locs ho22 hP => ?_)
    obtain rfl := Option.some.inj h
    exact ve_i (v := q21.1) S hF hP hr hk rfl dX6_account_93
  rw [if_neg c41] at h
  by_cases c42 : x1 = 9
  · rw [if_pos c42] at h
    refine lv_tableIn (off := 93) (tgt := 94) hx hb dX6_account_1 (by rw [c42]; decide) (by rw [c42]; decide) (by rw [c42]; rfl) (by decide) ?_
    refine lv_aload_n hx hb dX6_account_94 rfl (lv_at hl 0 rfl) ?_
    refine lv_aload_n hx hb dX6_account_95 rfl (lv_at hl 0 rfl) ?_
    refine vt_getI S hF hP (k := 3) (ci := 6) 26 (hlt _ (by decide)) rfl (by decide) rfl (by decide) rfl (inC_X6 _) (List.mem_cons_of_mem _ fl_X6_63) dX6_account_96 ?_
    obtain ⟨q23, hq23, h⟩ := ob h
    refine vu_i hP (vu_V S hF hP (h := 26) (hlt _ (by decide)) rfl (by decide) rfl (c_X6_done l P hA hn w (gI w 26 3) hq23) ok_X6_done ml_X6_81 ⟨Nat.le_of_ble_eq_true rfl, Nat.le_of_ble_eq_true rfl⟩ rfl hl.1 rfl (Nat.le_of_ble_eq_true rfl) dX6_account_99 ⟨Nat.le_of_ble_eq_true rfl, Nat.le_of_ble_eq_true rfl⟩) (fun H locs ho24 hP => ?_)
    obtain rfl := Option.some.inj h
    exact ve_i (v := q23.1) S hF hP hr hk rfl dX6_account_102
  rw [if_neg c42] at h
  refine lv_tableOut (tgt := 103) hx hb dX6_account_1 (sw_out (fun i i1 i2 => ?_)) (by decide) ?_
  · have i3 : i = 0 ∨ i = 1 ∨ i = 2 ∨ i = 3 ∨ i = 4 ∨ i = 5 ∨ i = 6 ∨ i = 7 ∨ i = 8 ∨ i = 9 := by omega
    rcases i3 with rfl | rfl | rfl | rfl | rfl | rfl | rfl | rfl | rfl | rfl
    · exact c27
    · exact c28
    · exact c29
    · exact c31
    · exact c33
    · exact c35
    · exact c37
    · exact c39
    · exact c41
    · exact c42
  refine lv_aload_n hx hb dX6_account_103 rfl (lv_at hl 0 rfl) ?_
  refine lv_iconst (v := 1) hx hb dX6_account_104 (by decide) ?_
  obtain ⟨q25, hq25, h⟩ := ob h
  refine vu_i hP (vu_V S hF hP (h := 26) (hlt _ (by decide)) rfl (by decide) rfl (c_X6_fails l P hA hn w 1 hq25) ok_X6_fails ml_X6_77 ⟨Nat.le_of_ble_eq_true rfl, Nat.le_of_ble_eq_true rfl⟩ rfl hl.1 rfl (Nat.le_of_ble_eq_true rfl) dX6_account_105 ⟨Nat.le_of_ble_eq_true rfl, Nat.le_of_ble_eq_true rfl⟩) (fun H locs ho26 hP => ?_)
  obtain rfl := Option.some.inj h
  exact ve_i (v := q25.1) S hF hP hr hk rfl dX6_account_108
set_option maxRecDepth 100000 in
set_option maxHeartbeats 4000000 in
theorem c_X6_isWell (l : Launch) (P : Pl) (hA : Adr P) (hn : 36 ≤ P.2.2.2.1) (w : Wo) {r : Int32 × Wo} (h : F_X6_isWell w = some r) : CtI l P yX6_isWell cX6_isWell 1 (some .boolean) 0 [.ref (P.2.1 26)] w r.1 r.2 := by
  have hlt : ∀ h, h < 36 → h < P.2.2.2.1 := fun h q => Nat.lt_of_lt_of_le q hn
  refine vs_met hA (by decide +kernel) (Nat.le_of_ble_eq_true rfl) (fun p e s m args below meth c ls S hF hP hl hr hk => ?_)
  have hx := S.1
  have hb := S.2.1
  replace hl : lv_has ls 1 [(0, .ref (P.2.1 26))] := hl
  have hB5 : ∀ (w : Wo), B_X6_isWell_5 w = some r → ∀ (H : Heap) (locs : List Loc) (ls : Array Slot), St P s w H locs → lv_has ls 1 [] → W p l e (rmU 0 0 0) s m args below meth c H locs 0 0 (QI P (some .boolean) r.1 r.2 below args s) (F0 m 5 ls []) := by
    intro w h H locs ls hP hl
    unfold B_X6_isWell_5 at h
    refine lv_iconst (v := 1) hx hb dX6_isWell_5 (by decide) ?_
    obtain rfl := Option.some.inj h
    exact ve_i (v := 1) S hF hP hr hk rfl dX6_isWell_6
  unfold F_X6_isWell at h
  refine lv_aload_n hx hb dX6_isWell_0 rfl (lv_at hl 0 rfl) ?_
  refine lv_iconst (v := 0) hx hb dX6_isWell_1 (by decide) ?_
  refine vt_putI S hF hP (k := 14) (ci := 6) 26 (hlt _ (by decide)) rfl (by decide) rfl (by decide) rfl tyX6 tyX6_ok nmX6 rfl rfl rfl rfl (by decide) (inC_X6 _) (List.mem_cons_of_mem _ fl_X6_46) dX6_isWell_2 (fun H locs hP => ?_)
  exact hB5 _ h _ _ _ hP (lv_sub hl [] rfl)
set_option maxRecDepth 100000 in
set_option maxHeartbeats 4000000 in
theorem c_X6_farFromHome (l : Launch) (P : Pl) (hA : Adr P) (hn : 36 ≤ P.2.2.2.1) (w : Wo) (x1 : Int32) {r : Int32} (h : F_X6_farFromHome w x1 = some r) : CtI l P yX6_farFromHome cX6_farFromHome 5 (some .int) 2 [.ref (P.2.1 26), .int x1] w r w := by
  have hlt : ∀ h, h < 36 → h < P.2.2.2.1 := fun h q => Nat.lt_of_lt_of_le q hn
  refine vs_met hA (by decide +kernel) (Nat.le_of_ble_eq_true rfl) (fun p e s m args below meth c ls S hF hP hl hr hk => ?_)
  have hx := S.1
  have hb := S.2.1
  replace hl : lv_has ls 5 [(0, .ref (P.2.1 26)), (1, .int x1)] := hl
  have hB67 : ∀ (x2 : Int32) (x3 : Int32), B_X6_farFromHome_67 w x2 x3 = some r → ∀ (H : Heap) (locs : List Loc) (ls : Array Slot), St P s w H locs → lv_has ls 5 [(0, .ref (P.2.1 26)), (2, .int x2), (3, .int x3)] → W p l e (rmU 2 0 0) s m args below meth c H locs 0 0 (QI P (some .int) r w below args s) (F0 m 67 ls []) := by
    intro x2 x3 h H locs ls hP hl
    unfold B_X6_farFromHome_67 at h
    refine lv_iload_n hx hb dX6_farFromHome_67 rfl (lv_at hl 1 rfl) ?_
    refine lv_iconst (v := (-1)) hx hb dX6_farFromHome_68 (by decide) ?_
    refine lv_icmp_eq (tgt := 87) hx hb dX6_farFromHome_69 (by decide) (fun c7 => ?_) (fun c7 => ?_)
    · rw [if_pos c7] at h
      refine lv_iconst (v := (-1)) hx hb dX6_farFromHome_87 (by decide) ?_
      obtain rfl := Option.some.inj h
      exact ve_i (v := (-1)) S hF hP hr hk rfl dX6_farFromHome_88
    · rw [if_neg c7] at h
      refine lv_aload_n hx hb dX6_farFromHome_72 rfl (lv_at hl 0 rfl) ?_
      refine lv_bipush (v := 14) hx hb dX6_farFromHome_73 (by decide) ?_
      refine lv_iload_n hx hb dX6_farFromHome_75 rfl (lv_at hl 1 rfl) ?_
      obtain ⟨q3, hq3, h⟩ := ob h
      refine vu_i hP (vu_V S hF hP (h := 26) (hlt _ (by decide)) rfl (by decide) rfl (c_X6_timesOf l P hA hn w 14 x2 hq3) ok_X6_timesOf ml_X6_174 ⟨Nat.le_of_ble_eq_true rfl, Nat.le_of_ble_eq_true rfl⟩ rfl hl.1 rfl (Nat.le_of_ble_eq_true rfl) dX6_farFromHome_76 ⟨Nat.le_of_ble_eq_true rfl, Nat.le_of_ble_eq_true rfl⟩) (fun H locs ho4 hP => ?_)
      refine lv_iconst (v := 1) hx hb dX6_farFromHome_79 (by decide) ?_
      refine lv_icmp_ne (tgt := 87) hx hb dX6_farFromHome_80 (by decide) (fun c8 => ?_) (fun c8 => ?_)
      · rw [if_neg c8] at h
        refine lv_iconst (v := (-1)) hx hb dX6_farFromHome_87 (by decide) ?_
        obtain rfl := Option.some.inj h
        exact ve_i (v := (-1)) S hF hP hr hk rfl dX6_farFromHome_88
      · rw [if_pos c8] at h
        refine lv_iload_n hx hb dX6_farFromHome_83 rfl (lv_at hl 2 rfl) ?_
        refine lv_goto (tgt := 88) hx hb dX6_farFromHome_84 (by decide) ?_
        obtain rfl := Option.some.inj h
        exact ve_i (v := x3) S hF hP hr hk rfl dX6_farFromHome_88
  have hL15 : ∀ (x1 : Int32) (x2 : Int32) (n : Nat) (x3 : Int32) (x4 : Int32), jl2 (B_X6_farFromHome_15 w x1 x2) n x3 x4 = some r → ∀ (H : Heap) (locs : List Loc) (ls : Array Slot), St P s w H locs → lv_has ls 5 [(0, .ref (P.2.1 26)), (1, .int x1), (2, .int x2), (3, .int x3), (4, .int x4)] → W p l e (rmU 2 0 0) s m args below meth c H locs 0 0 (QI P (some .int) r w below args s) (F0 m 15 ls []) := by
    intro x1 x2
    intro n
    induction n with
    | zero =>
      intro x3 x4 h
      cases h
    | succ n ih15 =>
      intro x3 x4 h H locs ls hP hl
      replace h : B_X6_farFromHome_15 w x1 x2 (jl2 (B_X6_farFromHome_15 w x1 x2) n) x3 x4 = some r := h
      revert h ih15
      generalize jl2 (B_X6_farFromHome_15 w x1 x2) n = k15
      intro ih15 h
      have hB60 : ∀ (x4 : Int32) (t0 : Int32), B_X6_farFromHome_60 k15 w x1 x2 x4 t0 = some r → ∀ (H : Heap) (locs : List Loc) (ls : Array Slot), St P s w H locs → lv_has ls 5 [(0, .ref (P.2.1 26)), (1, .int x1), (2, .int x2), (4, .int x4)] → W p l e (rmU 2 0 0) s m args below meth c H locs 0 0 (QI P (some .int) r w below args s) (F0 m 60 ls [.int t0]) := by
        intro x4 t0 h H locs ls hP hl
        unfold B_X6_farFromHome_60 at h
        refine lv_istore_n (lv' := [(3, .int t0), (0, .ref (P.2.1 26)), (1, .int x1), (2, .int x2), (4, .int x4)]) hx hb dX6_farFromHome_60 rfl hl (by decide) rfl (fun ls hl => ?_)
        refine lv_iinc (v := (x4 + 1)) (lv' := [(4, .int (x4 + 1)), (3, .int t0), (0, .ref (P.2.1 26)), (1, .int x1), (2, .int x2)]) hx hb dX6_farFromHome_61 hl (k := 4) rfl rfl (by decide) rfl (fun ls hl => ?_)
        refine lv_goto (tgt := 15) hx hb dX6_farFromHome_64 (by decide) ?_
        exact ih15 _ _ h _ _ _ hP (lv_sub hl [2, 3, 4, 1, 0] rfl)
      have hB59 : ∀ (x3 : Int32) (x4 : Int32), B_X6_farFromHome_59 k15 w x1 x2 x3 x4 = some r → ∀ (H : Heap) (locs : List Loc) (ls : Array Slot), St P s w H locs → lv_has ls 5 [(0, .ref (P.2.1 26)), (1, .int x1), (2, .int x2), (3, .int x3), (4, .int x4)] → W p l e (rmU 2 0 0) s m args below meth c H locs 0 0 (QI P (some .int) r w below args s) (F0 m 59 ls []) := by
        intro x3 x4 h H locs ls hP hl
        unfold B_X6_farFromHome_59 at h
        refine lv_iload_n hx hb dX6_farFromHome_59 rfl (lv_at hl 3 rfl) ?_
        exact hB60 _ _ h _ _ _ hP (lv_sub hl [0, 1, 2, 4] rfl)
      unfold B_X6_farFromHome_15 at h
      refine lv_iload hx hb dX6_farFromHome_15 (lv_at hl 4 rfl) ?_
      refine lv_aload_n hx hb dX6_farFromHome_17 rfl (lv_at hl 0 rfl) ?_
      obtain ⟨q1, hq1, h⟩ := ob h
      refine vu_i hP (vu_V S hF hP (h := 26) (hlt _ (by decide)) rfl (by decide) rfl (c_X6_places l P hA hn w hq1) ok_X6_places ml_X6_66 ⟨Nat.le_of_ble_eq_true rfl, Nat.le_of_ble_eq_true rfl⟩ rfl hl.1 rfl (Nat.le_of_ble_eq_true rfl) dX6_farFromHome_18 ⟨Nat.le_of_ble_eq_true rfl, Nat.le_of_ble_eq_true rfl⟩) (fun H locs ho2 hP => ?_)
      refine lv_icmp_ge (tgt := 67) hx hb dX6_farFromHome_21 (by decide) (fun c9 => ?_) (fun c9 => ?_)
      · rw [if_pos c9] at h
        exact hB67 _ _ h _ _ _ hP (lv_sub hl [0, 2, 3] rfl)
      · rw [if_neg c9] at h
        refine lv_iload_n hx hb dX6_farFromHome_24 rfl (lv_at hl 2 rfl) ?_
        refine lv_iconst (v := (-1)) hx hb dX6_farFromHome_25 (by decide) ?_
        refine lv_icmp_eq (tgt := 59) hx hb dX6_farFromHome_26 (by decide) (fun c10 => ?_) (fun c10 => ?_)
        · rw [if_pos c10] at h
          exact hB59 _ _ h _ _ _ hP (lv_sub hl [0, 1, 2, 3, 4] rfl)
        · rw [if_neg c10] at h
          refine lv_aload_n hx hb dX6_farFromHome_29 rfl (lv_at hl 0 rfl) ?_
          refine vt_getR (r := 27) S hF hP (k := 0) (ci := 6) 26 (hlt _ (by decide)) rfl (by decide) rfl (by decide) rfl rfl (inC_X6 _) (List.mem_cons_of_mem _ fl_X6_7) dX6_farFromHome_30 ?_
          refine lv_bipush (v := 14) hx hb dX6_farFromHome_33 (by decide) ?_
          refine lv_iload hx hb dX6_farFromHome_35 (lv_at hl 4 rfl) ?_
          refine lv_iadd hx hb dX6_farFromHome_37 ?_
          obtain ⟨c11, h⟩ := chk h
          refine vt_iald S hF hP (hlt _ (by decide)) rfl c11 dX6_farFromHome_38 ?_
          refine lv_iload_n hx hb dX6_farFromHome_39 rfl (lv_at hl 2 rfl) ?_
          refine lv_icmp_ne (tgt := 59) hx hb dX6_farFromHome_40 (by decide) (fun c12 => ?_) (fun c12 => ?_)
          · rw [if_neg c12] at h
            exact hB59 _ _ h _ _ _ hP (lv_sub hl [0, 1, 2, 3, 4] rfl)
          · rw [if_pos c12] at h
            refine lv_aload_n hx hb dX6_farFromHome_43 rfl (lv_at hl 0 rfl) ?_
            refine lv_iload hx hb dX6_farFromHome_44 (lv_at hl 4 rfl) ?_
            refine lv_iload_n hx hb dX6_farFromHome_46 rfl (lv_at hl 1 rfl) ?_
            refine lv_aload_n hx hb dX6_farFromHome_47 rfl (lv_at hl 0 rfl) ?_
            refine vt_getR (r := 27) S hF hP (k := 0) (ci := 6) 26 (hlt _ (by decide)) rfl (by decide) rfl (by decide) rfl rfl (inC_X6 _) (List.mem_cons_of_mem _ fl_X6_7) dX6_farFromHome_48 ?_
            refine lv_iconst (v := 1) hx hb dX6_farFromHome_51 (by decide) ?_
            refine vt_ialdK 1 (by decide) S hF hP (hlt _ (by decide)) rfl (by decide) dX6_farFromHome_52 ?_
            obtain ⟨q5, hq5, h⟩ := ob h
            refine vu_i hP (vu_V S hF hP (h := 26) (hlt _ (by decide)) rfl (by decide) rfl (c_X6_stepsBetween l P hA hn w x4 x1 (gI w 27 1) hq5) ok_X6_stepsBetween ml_X6_202 ⟨Nat.le_of_ble_eq_true rfl, Nat.le_of_ble_eq_true rfl⟩ rfl hl.1 rfl (Nat.le_of_ble_eq_true rfl) dX6_farFromHome_53 ⟨Nat.le_of_ble_eq_true rfl, Nat.le_of_ble_eq_true rfl⟩) (fun H locs ho6 hP => ?_)
            refine lv_goto (tgt := 60) hx hb dX6_farFromHome_56 (by decide) ?_
            exact hB60 _ _ h _ _ _ hP (lv_sub hl [0, 1, 2, 4] rfl)
  have hB10 : ∀ (x1 : Int32) (x2 : Int32), B_X6_farFromHome_10 w x1 x2 = some r → ∀ (H : Heap) (locs : List Loc) (ls : Array Slot), St P s w H locs → lv_has ls 5 [(0, .ref (P.2.1 26)), (1, .int x1), (2, .int x2)] → W p l e (rmU 2 0 0) s m args below meth c H locs 0 0 (QI P (some .int) r w below args s) (F0 m 10 ls []) := by
    intro x1 x2 h H locs ls hP hl
    unfold B_X6_farFromHome_10 at h
    refine lv_iconst (v := (-1)) hx hb dX6_farFromHome_10 (by decide) ?_
    refine lv_istore_n (lv' := [(3, .int (-1)), (0, .ref (P.2.1 26)), (1, .int x1), (2, .int x2)]) hx hb dX6_farFromHome_11 rfl hl (by decide) rfl (fun ls hl => ?_)
    refine lv_iconst (v := 0) hx hb dX6_farFromHome_12 (by decide) ?_
    refine lv_istore (lv' := [(4, .int 0), (3, .int (-1)), (0, .ref (P.2.1 26)), (1, .int x1), (2, .int x2)]) hx hb dX6_farFromHome_13 hl (by decide) rfl (fun ls hl => ?_)
    exact hL15 _ _ fu _ _ h _ _ _ hP (lv_sub hl [2, 3, 4, 1, 0] rfl)
  unfold F_X6_farFromHome at h
  refine lv_aload_n hx hb dX6_farFromHome_0 rfl (lv_at hl 0 rfl) ?_
  refine vt_getR (r := 27) S hF hP (k := 0) (ci := 6) 26 (hlt _ (by decide)) rfl (by decide) rfl (by decide) rfl rfl (inC_X6 _) (List.mem_cons_of_mem _ fl_X6_7) dX6_farFromHome_1 ?_
  refine lv_bipush (v := 23) hx hb dX6_farFromHome_4 (by decide) ?_
  refine lv_iload_n hx hb dX6_farFromHome_6 rfl (lv_at hl 1 rfl) ?_
  refine lv_iadd hx hb dX6_farFromHome_7 ?_
  obtain ⟨c13, h⟩ := chk h
  refine vt_iald S hF hP (hlt _ (by decide)) rfl c13 dX6_farFromHome_8 ?_
  refine lv_istore_n (lv' := [(2, .int (gI w 27 (Int32.toNatClampNeg ((23 : Int32) + x1)))), (0, .ref (P.2.1 26)), (1, .int x1)]) hx hb dX6_farFromHome_9 rfl hl (by decide) rfl (fun ls hl => ?_)
  exact hB10 _ _ h _ _ _ hP (lv_sub hl [1, 2, 0] rfl)
set_option maxRecDepth 100000 in
set_option maxHeartbeats 4000000 in
theorem c_X6_meanFar (l : Launch) (P : Pl) (hA : Adr P) (hn : 36 ≤ P.2.2.2.1) (w : Wo) {r : UInt64 × Wo} (h : F_X6_meanFar w = some r) : CtD l P yX6_meanFar cX6_meanFar 5 (some .double) 3 [.ref (P.2.1 26)] w r.1 r.2 := by
  have hlt : ∀ h, h < 36 → h < P.2.2.2.1 := fun h q => Nat.lt_of_lt_of_le q hn
  refine vs_met hA (by decide +kernel) (Nat.le_of_ble_eq_true rfl) (fun p e s m args below meth c ls S hF hP hl hr hk => ?_)
  have hx := S.1
  have hb := S.2.1
  replace hl : lv_has ls 5 [(0, .ref (P.2.1 26))] := hl
  have hB69 : ∀ (w : Wo) (x1 : Int32) (x2 : Int32), B_X6_meanFar_69 w x1 x2 = some r → ∀ (H : Heap) (locs : List Loc) (ls : Array Slot), St P s w H locs → lv_has ls 5 [(0, .ref (P.2.1 26)), (1, .int x1), (2, .int x2)] → W p l e (rmU 3 0 0) s m args below meth c H locs 0 0 (QD P r.1 r.2 below args s) (F0 m 69 ls []) := by
    intro w x1 x2 h H locs ls hP hl
    unfold B_X6_meanFar_69 at h
    refine lv_aload_n hx hb dX6_meanFar_69 rfl (lv_at hl 0 rfl) ?_
    refine vt_getI S hF hP (k := 14) (ci := 6) 26 (hlt _ (by decide)) rfl (by decide) rfl (by decide) rfl (inC_X6 _) (List.mem_cons_of_mem _ fl_X6_46) dX6_meanFar_70 ?_
    refine lv_if_ne (tgt := 84) hx hb dX6_meanFar_73 (by decide) (fun c5 => ?_) (fun c5 => ?_)
    · rw [if_neg c5] at h
      refine lv_dconst0 hx hb dX6_meanFar_84 ?_
      obtain rfl := Option.some.inj h
      exact ve_d S hF hP hr hk dX6_meanFar_85
    · rw [if_pos c5] at h
      refine lv_iload_n hx hb dX6_meanFar_76 rfl (lv_at hl 2 rfl) ?_
      refine lv_i2d hx hb dX6_meanFar_77 ?_
      refine lv_iload_n hx hb dX6_meanFar_78 rfl (lv_at hl 1 rfl) ?_
      refine lv_i2d hx hb dX6_meanFar_79 ?_
      obtain ⟨c6, h⟩ := chk h
      refine lv_ddiv hx hb dX6_meanFar_80 c6 ?_
      refine lv_goto (tgt := 85) hx hb dX6_meanFar_81 (by decide) ?_
      obtain rfl := Option.some.inj h
      exact ve_d S hF hP hr hk dX6_meanFar_85
  have hB66 : ∀ (w : Wo) (x1 : Int32) (x2 : Int32) (t0 : Int32), B_X6_meanFar_66 w x1 x2 t0 = some r → ∀ (H : Heap) (locs : List Loc) (ls : Array Slot), St P s w H locs → lv_has ls 5 [(0, .ref (P.2.1 26)), (1, .int x1), (2, .int x2)] → W p l e (rmU 3 0 0) s m args below meth c H locs 0 0 (QD P r.1 r.2 below args s) (F0 m 66 ls [.int t0, .ref (P.2.1 26)]) := by
    intro w x1 x2 t0 h H locs ls hP hl
    unfold B_X6_meanFar_66 at h
    refine vt_putI S hF hP (k := 14) (ci := 6) 26 (hlt _ (by decide)) rfl (by decide) rfl (by decide) rfl tyX6 tyX6_ok nmX6 rfl rfl rfl rfl (by decide) (inC_X6 _) (List.mem_cons_of_mem _ fl_X6_46) dX6_meanFar_66 (fun H locs hP => ?_)
    exact hB69 _ _ _ h _ _ _ hP (lv_sub hl [0, 1, 2] rfl)
  have hB56 : ∀ (w : Wo) (x1 : Int32) (x2 : Int32), B_X6_meanFar_56 w x1 x2 = some r → ∀ (H : Heap) (locs : List Loc) (ls : Array Slot), St P s w H locs → lv_has ls 5 [(0, .ref (P.2.1 26)), (1, .int x1), (2, .int x2)] → W p l e (rmU 3 0 0) s m args below meth c H locs 0 0 (QD P r.1 r.2 below args s) (F0 m 56 ls []) := by
    intro w x1 x2 h H locs ls hP hl
    unfold B_X6_meanFar_56 at h
    refine lv_aload_n hx hb dX6_meanFar_56 rfl (lv_at hl 0 rfl) ?_
    refine lv_iload_n hx hb dX6_meanFar_57 rfl (lv_at hl 1 rfl) ?_
    refine lv_if_ne (tgt := 65) hx hb dX6_meanFar_58 (by decide) (fun c7 => ?_) (fun c7 => ?_)
    · rw [if_neg c7] at h
      refine lv_iconst (v := 0) hx hb dX6_meanFar_65 (by decide) ?_
      exact hB66 _ _ _ _ h _ _ _ hP (lv_sub hl [0, 1, 2] rfl)
    · rw [if_pos c7] at h
      refine lv_iconst (v := 1) hx hb dX6_meanFar_61 (by decide) ?_
      refine lv_goto (tgt := 66) hx hb dX6_meanFar_62 (by decide) ?_
      exact hB66 _ _ _ _ h _ _ _ hP (lv_sub hl [0, 1, 2] rfl)
  have hL6 : ∀ (w : Wo) (n : Nat) (x1 : Int32) (x2 : Int32) (x3 : Int32), jl3 (B_X6_meanFar_6 w) n x1 x2 x3 = some r → ∀ (H : Heap) (locs : List Loc) (ls : Array Slot), St P s w H locs → lv_has ls 5 [(0, .ref (P.2.1 26)), (1, .int x1), (2, .int x2), (3, .int x3)] → W p l e (rmU 3 0 0) s m args below meth c H locs 0 0 (QD P r.1 r.2 below args s) (F0 m 6 ls []) := by
    intro w
    intro n
    induction n with
    | zero =>
      intro x1 x2 x3 h
      cases h
    | succ n ih6 =>
      intro x1 x2 x3 h H locs ls hP hl
      replace h : B_X6_meanFar_6 w (jl3 (B_X6_meanFar_6 w) n) x1 x2 x3 = some r := h
      revert h ih6
      generalize jl3 (B_X6_meanFar_6 w) n = k6
      intro ih6 h
      have hB48 : ∀ (x1 : Int32) (x3 : Int32) (t0 : Int32) (t1 : Int32), B_X6_meanFar_48 k6 w x1 x3 t0 t1 = some r → ∀ (H : Heap) (locs : List Loc) (ls : Array Slot), St P s w H locs → lv_has ls 5 [(0, .ref (P.2.1 26)), (1, .int x1), (3, .int x3)] → W p l e (rmU 3 0 0) s m args below meth c H locs 0 0 (QD P r.1 r.2 below args s) (F0 m 48 ls [.int t0, .int t1]) := by
        intro x1 x3 t0 t1 h H locs ls hP hl
        unfold B_X6_meanFar_48 at h
        refine lv_iadd hx hb dX6_meanFar_48 ?_
        refine lv_istore_n (lv' := [(2, .int (t1 + t0)), (0, .ref (P.2.1 26)), (1, .int x1), (3, .int x3)]) hx hb dX6_meanFar_49 rfl hl (by decide) rfl (fun ls hl => ?_)
        refine lv_iinc (v := (x3 + 1)) (lv' := [(3, .int (x3 + 1)), (2, .int (t1 + t0)), (0, .ref (P.2.1 26)), (1, .int x1)]) hx hb dX6_meanFar_50 hl (k := 3) rfl rfl (by decide) rfl (fun ls hl => ?_)
        refine lv_goto (tgt := 6) hx hb dX6_meanFar_53 (by decide) ?_
        exact ih6 _ _ _ h _ _ _ hP (lv_sub hl [2, 3, 1, 0] rfl)
      have hB33 : ∀ (x2 : Int32) (x3 : Int32) (x4 : Int32) (t0 : Int32) (t1 : Int32), B_X6_meanFar_33 k6 w x2 x3 x4 t0 t1 = some r → ∀ (H : Heap) (locs : List Loc) (ls : Array Slot), St P s w H locs → lv_has ls 5 [(0, .ref (P.2.1 26)), (2, .int x2), (3, .int x3), (4, .int x4)] → W p l e (rmU 3 0 0) s m args below meth c H locs 0 0 (QD P r.1 r.2 below args s) (F0 m 33 ls [.int t0, .int t1]) := by
        intro x2 x3 x4 t0 t1 h H locs ls hP hl
        unfold B_X6_meanFar_33 at h
        refine lv_iadd hx hb dX6_meanFar_33 ?_
        refine lv_istore_n (lv' := [(1, .int (t1 + t0)), (0, .ref (P.2.1 26)), (2, .int x2), (3, .int x3), (4, .int x4)]) hx hb dX6_meanFar_34 rfl hl (by decide) rfl (fun ls hl => ?_)
        refine lv_iload_n hx hb dX6_meanFar_35 rfl (lv_at hl 2 rfl) ?_
        refine lv_iload hx hb dX6_meanFar_36 (lv_at hl 4 rfl) ?_
        refine lv_iconst (v := (-1)) hx hb dX6_meanFar_38 (by decide) ?_
        refine lv_icmp_ne (tgt := 46) hx hb dX6_meanFar_39 (by decide) (fun c8 => ?_) (fun c8 => ?_)
        · rw [if_neg c8] at h
          refine lv_iload hx hb dX6_meanFar_46 (lv_at hl 4 rfl) ?_
          exact hB48 _ _ _ _ h _ _ _ hP (lv_sub hl [1, 0, 3] rfl)
        · rw [if_pos c8] at h
          refine lv_iconst (v := 0) hx hb dX6_meanFar_42 (by decide) ?_
          refine lv_goto (tgt := 48) hx hb dX6_meanFar_43 (by decide) ?_
          exact hB48 _ _ _ _ h _ _ _ hP (lv_sub hl [1, 0, 3] rfl)
      unfold B_X6_meanFar_6 at h
      refine lv_iload_n hx hb dX6_meanFar_6 rfl (lv_at hl 3 rfl) ?_
      refine lv_aload_n hx hb dX6_meanFar_7 rfl (lv_at hl 0 rfl) ?_
      obtain ⟨q1, hq1, h⟩ := ob h
      refine vu_i hP (vu_V S hF hP (h := 26) (hlt _ (by decide)) rfl (by decide) rfl (c_X6_places l P hA hn w hq1) ok_X6_places ml_X6_66 ⟨Nat.le_of_ble_eq_true rfl, Nat.le_of_ble_eq_true rfl⟩ rfl hl.1 rfl (Nat.le_of_ble_eq_true rfl) dX6_meanFar_8 ⟨Nat.le_of_ble_eq_true rfl, Nat.le_of_ble_eq_true rfl⟩) (fun H locs ho2 hP => ?_)
      refine lv_icmp_ge (tgt := 56) hx hb dX6_meanFar_11 (by decide) (fun c9 => ?_) (fun c9 => ?_)
      · rw [if_pos c9] at h
        exact hB56 _ _ _ h _ _ _ hP (lv_sub hl [0, 1, 2] rfl)
      · rw [if_neg c9] at h
        refine lv_aload_n hx hb dX6_meanFar_14 rfl (lv_at hl 0 rfl) ?_
        refine lv_iload_n hx hb dX6_meanFar_15 rfl (lv_at hl 3 rfl) ?_
        obtain ⟨q3, hq3, h⟩ := ob h
        refine vu_i hP (vu_V S hF hP (h := 26) (hlt _ (by decide)) rfl (by decide) rfl (c_X6_farFromHome l P hA hn w x3 hq3) ok_X6_farFromHome ml_X6_260 ⟨Nat.le_of_ble_eq_true rfl, Nat.le_of_ble_eq_true rfl⟩ rfl hl.1 rfl (Nat.le_of_ble_eq_true rfl) dX6_meanFar_16 ⟨Nat.le_of_ble_eq_true rfl, Nat.le_of_ble_eq_true rfl⟩) (fun H locs ho4 hP => ?_)
        refine lv_istore (lv' := [(4, .int q3), (0, .ref (P.2.1 26)), (1, .int x1), (2, .int x2), (3, .int x3)]) hx hb dX6_meanFar_19 hl (by decide) rfl (fun ls hl => ?_)
        refine lv_iload_n hx hb dX6_meanFar_21 rfl (lv_at hl 2 rfl) ?_
        refine lv_iload hx hb dX6_meanFar_22 (lv_at hl 0 rfl) ?_
        refine lv_iconst (v := (-1)) hx hb dX6_meanFar_24 (by decide) ?_
        refine lv_icmp_ne (tgt := 32) hx hb dX6_meanFar_25 (by decide) (fun c10 => ?_) (fun c10 => ?_)
        · rw [if_neg c10] at h
          refine lv_iconst (v := 1) hx hb dX6_meanFar_32 (by decide) ?_
          exact hB33 _ _ _ _ _ h _ _ _ hP (lv_sub hl [1, 3, 4, 0] rfl)
        · rw [if_pos c10] at h
          refine lv_iconst (v := 0) hx hb dX6_meanFar_28 (by decide) ?_
          refine lv_goto (tgt := 33) hx hb dX6_meanFar_29 (by decide) ?_
          exact hB33 _ _ _ _ _ h _ _ _ hP (lv_sub hl [1, 3, 4, 0] rfl)
  unfold F_X6_meanFar at h
  refine lv_iconst (v := 0) hx hb dX6_meanFar_0 (by decide) ?_
  refine lv_istore_n (lv' := [(1, .int 0), (0, .ref (P.2.1 26))]) hx hb dX6_meanFar_1 rfl hl (by decide) rfl (fun ls hl => ?_)
  refine lv_iconst (v := 0) hx hb dX6_meanFar_2 (by decide) ?_
  refine lv_istore_n (lv' := [(2, .int 0), (1, .int 0), (0, .ref (P.2.1 26))]) hx hb dX6_meanFar_3 rfl hl (by decide) rfl (fun ls hl => ?_)
  refine lv_iconst (v := 0) hx hb dX6_meanFar_4 (by decide) ?_
  refine lv_istore_n (lv' := [(3, .int 0), (2, .int 0), (1, .int 0), (0, .ref (P.2.1 26))]) hx hb dX6_meanFar_5 rfl hl (by decide) rfl (fun ls hl => ?_)
  exact hL6 _ fu _ _ _ h _ _ _ hP (lv_sub hl [3, 2, 1, 0] rfl)
set_option maxRecDepth 100000 in
set_option maxHeartbeats 4000000 in
theorem c_X6_homeShare (l : Launch) (P : Pl) (hA : Adr P) (hn : 36 ≤ P.2.2.2.1) (w : Wo) {r : UInt32 × Wo} (h : F_X6_homeShare w = some r) : CtF l P yX6_homeShare cX6_homeShare 1 (some .float) 3 [.ref (P.2.1 26)] w r.1 r.2 := by
  have hlt : ∀ h, h < 36 → h < P.2.2.2.1 := fun h q => Nat.lt_of_lt_of_le q hn
  refine vs_met hA (by decide +kernel) (Nat.le_of_ble_eq_true rfl) (fun p e s m args below meth c ls S hF hP hl hr hk => ?_)
  have hx := S.1
  have hb := S.2.1
  replace hl : lv_has ls 1 [(0, .ref (P.2.1 26))] := hl
  have hB5 : ∀ (w : Wo), B_X6_homeShare_5 w = some r → ∀ (H : Heap) (locs : List Loc) (ls : Array Slot), St P s w H locs → lv_has ls 1 [(0, .ref (P.2.1 26))] → W p l e (rmU 3 0 0) s m args below meth c H locs 0 0 (QF P r.1 r.2 below args s) (F0 m 5 ls []) := by
    intro w h H locs ls hP hl
    unfold B_X6_homeShare_5 at h
    refine lv_aload_n hx hb dX6_homeShare_5 rfl (lv_at hl 0 rfl) ?_
    obtain ⟨q1, hq1, h⟩ := ob h
    refine vu_i hP (vu_V S hF hP (h := 26) (hlt _ (by decide)) rfl (by decide) rfl (c_X6_homes l P hA hn w hq1) ok_X6_homes ml_X6_134 ⟨Nat.le_of_ble_eq_true rfl, Nat.le_of_ble_eq_true rfl⟩ rfl hl.1 rfl (Nat.le_of_ble_eq_true rfl) dX6_homeShare_6 ⟨Nat.le_of_ble_eq_true rfl, Nat.le_of_ble_eq_true rfl⟩) (fun H locs ho2 hP => ?_)
    refine lv_i2f hx hb dX6_homeShare_9 ?_
    refine lv_aload_n hx hb dX6_homeShare_10 rfl (lv_at hl 0 rfl) ?_
    obtain ⟨q3, hq3, h⟩ := ob h
    refine vu_i hP (vu_V S hF hP (h := 26) (hlt _ (by decide)) rfl (by decide) rfl (c_X6_places l P hA hn q1.2 hq3) ok_X6_places ml_X6_66 ⟨Nat.le_of_ble_eq_true rfl, Nat.le_of_ble_eq_true rfl⟩ rfl hl.1 rfl (Nat.le_of_ble_eq_true rfl) dX6_homeShare_11 ⟨Nat.le_of_ble_eq_true rfl, Nat.le_of_ble_eq_true rfl⟩) (fun H locs ho4 hP => ?_)
    refine lv_i2f hx hb dX6_homeShare_14 ?_
    obtain ⟨c5, h⟩ := chk h
    refine lv_fdiv hx hb dX6_homeShare_15 c5 ?_
    obtain rfl := Option.some.inj h
    exact ve_f S hF hP hr hk dX6_homeShare_16
  unfold F_X6_homeShare at h
  refine lv_aload_n hx hb dX6_homeShare_0 rfl (lv_at hl 0 rfl) ?_
  refine lv_iconst (v := 0) hx hb dX6_homeShare_1 (by decide) ?_
  refine vt_putI S hF hP (k := 14) (ci := 6) 26 (hlt _ (by decide)) rfl (by decide) rfl (by decide) rfl tyX6 tyX6_ok nmX6 rfl rfl rfl rfl (by decide) (inC_X6 _) (List.mem_cons_of_mem _ fl_X6_46) dX6_homeShare_2 (fun H locs hP => ?_)
  exact hB5 _ h _ _ _ hP (lv_sub hl [0] rfl)
set_option maxRecDepth 100000 in
set_option maxHeartbeats 4000000 in
theorem c_X6_undo (l : Launch) (P : Pl) (hA : Adr P) (hn : 36 ≤ P.2.2.2.1) (w : Wo) {r : Int32 × Wo} (h : F_X6_undo w = some r) : CtI l P yX6_undo cX6_undo 1 (some .int) 1 [.ref (P.2.1 26)] w r.1 r.2 := by
  have hlt : ∀ h, h < 36 → h < P.2.2.2.1 := fun h q => Nat.lt_of_lt_of_le q hn
  refine vs_met hA (by decide +kernel) (Nat.le_of_ble_eq_true rfl) (fun p e s m args below meth c ls S hF hP hl hr hk => ?_)
  have hx := S.1
  have hb := S.2.1
  replace hl : lv_has ls 1 [(0, .ref (P.2.1 26))] := hl
  have hB23 : ∀ (w : Wo), B_X6_undo_23 w = some r → ∀ (H : Heap) (locs : List Loc) (ls : Array Slot), St P s w H locs → lv_has ls 1 [(0, .ref (P.2.1 26))] → W p l e (rmU 1 0 0) s m args below meth c H locs 0 0 (QI P (some .int) r.1 r.2 below args s) (F0 m 23 ls []) := by
    intro w h H locs ls hP hl
    unfold B_X6_undo_23 at h
    refine lv_aload_n hx hb dX6_undo_23 rfl (lv_at hl 0 rfl) ?_
    refine vt_getR (r := 29) S hF hP (k := 2) (ci := 6) 26 (hlt _ (by decide)) rfl (by decide) rfl (by decide) rfl rfl (inC_X6 _) (List.mem_cons_of_mem _ fl_X6_16) dX6_undo_24 ?_
    refine lv_aload_n hx hb dX6_undo_27 rfl (lv_at hl 0 rfl) ?_
    refine vt_getI S hF hP (k := 3) (ci := 6) 26 (hlt _ (by decide)) rfl (by decide) rfl (by decide) rfl (inC_X6 _) (List.mem_cons_of_mem _ fl_X6_63) dX6_undo_28 ?_
    refine lv_bipush (v := 32) hx hb dX6_undo_31 (by decide) ?_
    refine lv_imul hx hb dX6_undo_33 ?_
    refine lv_aload_n hx hb dX6_undo_34 rfl (lv_at hl 0 rfl) ?_
    refine vt_getR (r := 27) S hF hP (k := 0) (ci := 6) 26 (hlt _ (by decide)) rfl (by decide) rfl (by decide) rfl rfl (inC_X6 _) (List.mem_cons_of_mem _ fl_X6_7) dX6_undo_35 ?_
    refine lv_iconst (v := 0) hx hb dX6_undo_38 (by decide) ?_
    obtain ⟨q1, hq1, h⟩ := ob h
    refine vu_v hP (vu_S S hF hP (c_X6_copy l P hA hn 29 256 27 32 rfl (by decide) rfl (by decide) w ((gI w 26 3) * (32 : Int32)) 0 hq1) ok_X6_copy ml_X6_59 ⟨Nat.le_of_ble_eq_true rfl, Nat.le_of_ble_eq_true rfl⟩ rfl hl.1 rfl (Nat.le_of_ble_eq_true rfl) dX6_undo_39 ⟨Nat.le_of_ble_eq_true rfl, Nat.le_of_ble_eq_true rfl⟩) (fun H locs hP => ?_)
    refine lv_aload_n hx hb dX6_undo_42 rfl (lv_at hl 0 rfl) ?_
    refine lv_aload_n hx hb dX6_undo_43 rfl (lv_at hl 0 rfl) ?_
    refine vt_getI S hF hP (k := 3) (ci := 6) 26 (hlt _ (by decide)) rfl (by decide) rfl (by decide) rfl (inC_X6 _) (List.mem_cons_of_mem _ fl_X6_63) dX6_undo_44 ?_
    obtain ⟨q2, hq2, h⟩ := ob h
    refine vu_i hP (vu_V S hF hP (h := 26) (hlt _ (by decide)) rfl (by decide) rfl (c_X6_done l P hA hn q1 (gI q1 26 3) hq2) ok_X6_done ml_X6_81 ⟨Nat.le_of_ble_eq_true rfl, Nat.le_of_ble_eq_true rfl⟩ rfl hl.1 rfl (Nat.le_of_ble_eq_true rfl) dX6_undo_47 ⟨Nat.le_of_ble_eq_true rfl, Nat.le_of_ble_eq_true rfl⟩) (fun H locs ho3 hP => ?_)
    obtain rfl := Option.some.inj h
    exact ve_i (v := q2.1) S hF hP hr hk rfl dX6_undo_50
  unfold F_X6_undo at h
  refine lv_aload_n hx hb dX6_undo_0 rfl (lv_at hl 0 rfl) ?_
  refine vt_getI S hF hP (k := 3) (ci := 6) 26 (hlt _ (by decide)) rfl (by decide) rfl (by decide) rfl (inC_X6 _) (List.mem_cons_of_mem _ fl_X6_63) dX6_undo_1 ?_
  refine lv_if_ne (tgt := 13) hx hb dX6_undo_4 (by decide) (fun c6 => ?_) (fun c6 => ?_)
  · rw [if_neg c6] at h
    refine lv_aload_n hx hb dX6_undo_13 rfl (lv_at hl 0 rfl) ?_
    refine lv_dup hx hb dX6_undo_14 rfl ?_
    refine vt_getI S hF hP (k := 3) (ci := 6) 26 (hlt _ (by decide)) rfl (by decide) rfl (by decide) rfl (inC_X6 _) (List.mem_cons_of_mem _ fl_X6_63) dX6_undo_15 ?_
    refine lv_iconst (v := 1) hx hb dX6_undo_18 (by decide) ?_
    refine lv_isub hx hb dX6_undo_19 ?_
    refine vt_putI S hF hP (k := 3) (ci := 6) 26 (hlt _ (by decide)) rfl (by decide) rfl (by decide) rfl tyX6 tyX6_ok nmX6 rfl rfl rfl rfl (by decide) (inC_X6 _) (List.mem_cons_of_mem _ fl_X6_63) dX6_undo_20 (fun H locs hP => ?_)
    exact hB23 _ h _ _ _ hP (lv_sub hl [0] rfl)
  · rw [if_pos c6] at h
    refine lv_aload_n hx hb dX6_undo_7 rfl (lv_at hl 0 rfl) ?_
    refine lv_iconst (v := 1) hx hb dX6_undo_8 (by decide) ?_
    obtain ⟨q4, hq4, h⟩ := ob h
    refine vu_i hP (vu_V S hF hP (h := 26) (hlt _ (by decide)) rfl (by decide) rfl (c_X6_fails l P hA hn w 1 hq4) ok_X6_fails ml_X6_77 ⟨Nat.le_of_ble_eq_true rfl, Nat.le_of_ble_eq_true rfl⟩ rfl hl.1 rfl (Nat.le_of_ble_eq_true rfl) dX6_undo_9 ⟨Nat.le_of_ble_eq_true rfl, Nat.le_of_ble_eq_true rfl⟩) (fun H locs ho5 hP => ?_)
    obtain rfl := Option.some.inj h
    exact ve_i (v := q4.1) S hF hP hr hk rfl dX6_undo_12
set_option maxRecDepth 100000 in
set_option maxHeartbeats 4000000 in
theorem c_X6_save (l : Launch) (P : Pl) (hA : Adr P) (hn : 36 ≤ P.2.2.2.1) (w : Wo) {r : Int32 × Wo} (h : F_X6_save w = some r) : CtI l P yX6_save cX6_save 1 (some .int) 3 [.ref (P.2.1 26)] w r.1 r.2 := by
  have hlt : ∀ h, h < 36 → h < P.2.2.2.1 := fun h q => Nat.lt_of_lt_of_le q hn
  refine vs_met hA (by decide +kernel) (Nat.le_of_ble_eq_true rfl) (fun p e s m args below meth c ls S hF hP hl hr hk => ?_)
  have hx := S.1
  have hb := S.2.1
  replace hl : lv_has ls 1 [(0, .ref (P.2.1 26))] := hl
  have hB18 : ∀ (w : Wo), B_X6_save_18 w = some r → ∀ (H : Heap) (locs : List Loc) (ls : Array Slot), St P s w H locs → lv_has ls 1 [(0, .ref (P.2.1 26))] → W p l e (rmU 3 0 0) s m args below meth c H locs 0 0 (QI P (some .int) r.1 r.2 below args s) (F0 m 18 ls []) := by
    intro w h H locs ls hP hl
    unfold B_X6_save_18 at h
    refine lv_aload_n hx hb dX6_save_18 rfl (lv_at hl 0 rfl) ?_
    refine lv_aload_n hx hb dX6_save_19 rfl (lv_at hl 0 rfl) ?_
    obtain ⟨q2, hq2, h⟩ := ob h
    refine vu_i hP (vu_V S hF hP (h := 26) (hlt _ (by decide)) rfl (by decide) rfl (c_X6_homes l P hA hn w hq2) ok_X6_homes ml_X6_134 ⟨Nat.le_of_ble_eq_true rfl, Nat.le_of_ble_eq_true rfl⟩ rfl hl.1 rfl (Nat.le_of_ble_eq_true rfl) dX6_save_20 ⟨Nat.le_of_ble_eq_true rfl, Nat.le_of_ble_eq_true rfl⟩) (fun H locs ho3 hP => ?_)
    obtain ⟨q4, hq4, h⟩ := ob h
    refine vu_i hP (vu_V S hF hP (h := 26) (hlt _ (by decide)) rfl (by decide) rfl (c_X6_done l P hA hn q2.2 q2.1 hq4) ok_X6_done ml_X6_81 ⟨Nat.le_of_ble_eq_true rfl, Nat.le_of_ble_eq_true rfl⟩ rfl hl.1 rfl (Nat.le_of_ble_eq_true rfl) dX6_save_23 ⟨Nat.le_of_ble_eq_true rfl, Nat.le_of_ble_eq_true rfl⟩) (fun H locs ho5 hP => ?_)
    obtain rfl := Option.some.inj h
    exact ve_i (v := q4.1) S hF hP hr hk rfl dX6_save_26
  unfold F_X6_save at h
  refine lv_aload_n hx hb dX6_save_0 rfl (lv_at hl 0 rfl) ?_
  refine vt_getR (r := 27) S hF hP (k := 0) (ci := 6) 26 (hlt _ (by decide)) rfl (by decide) rfl (by decide) rfl rfl (inC_X6 _) (List.mem_cons_of_mem _ fl_X6_7) dX6_save_1 ?_
  refine lv_iconst (v := 0) hx hb dX6_save_4 (by decide) ?_
  refine lv_aload_n hx hb dX6_save_5 rfl (lv_at hl 0 rfl) ?_
  refine vt_getR (r := 30) S hF hP (k := 4) (ci := 6) 26 (hlt _ (by decide)) rfl (by decide) rfl (by decide) rfl rfl (inC_X6 _) (List.mem_cons_of_mem _ fl_X6_19) dX6_save_6 ?_
  refine lv_iconst (v := 0) hx hb dX6_save_9 (by decide) ?_
  obtain ⟨q1, hq1, h⟩ := ob h
  refine vu_v hP (vu_S S hF hP (c_X6_copy l P hA hn 27 32 30 32 rfl (by decide) rfl (by decide) w 0 0 hq1) ok_X6_copy ml_X6_59 ⟨Nat.le_of_ble_eq_true rfl, Nat.le_of_ble_eq_true rfl⟩ rfl hl.1 rfl (Nat.le_of_ble_eq_true rfl) dX6_save_10 ⟨Nat.le_of_ble_eq_true rfl, Nat.le_of_ble_eq_true rfl⟩) (fun H locs hP => ?_)
  refine lv_aload_n hx hb dX6_save_13 rfl (lv_at hl 0 rfl) ?_
  refine lv_iconst (v := 1) hx hb dX6_save_14 (by decide) ?_
  refine vt_putI S hF hP (k := 5) (ci := 6) 26 (hlt _ (by decide)) rfl (by decide) rfl (by decide) rfl tyX6 tyX6_ok nmX6 rfl rfl rfl rfl (by decide) (inC_X6 _) (List.mem_cons_of_mem _ fl_X6_263) dX6_save_15 (fun H locs hP => ?_)
  exact hB18 _ h _ _ _ hP (lv_sub hl [0] rfl)
set_option maxRecDepth 100000 in
set_option maxHeartbeats 4000000 in
theorem c_X6_restore (l : Launch) (P : Pl) (hA : Adr P) (hn : 36 ≤ P.2.2.2.1) (w : Wo) {r : Int32 × Wo} (h : F_X6_restore w = some r) : CtI l P yX6_restore cX6_restore 1 (some .int) 3 [.ref (P.2.1 26)] w r.1 r.2 := by
  have hlt : ∀ h, h < 36 → h < P.2.2.2.1 := fun h q => Nat.lt_of_lt_of_le q hn
  refine vs_met hA (by decide +kernel) (Nat.le_of_ble_eq_true rfl) (fun p e s m args below meth c ls S hF hP hl hr hk => ?_)
  have hx := S.1
  have hb := S.2.1
  replace hl : lv_has ls 1 [(0, .ref (P.2.1 26))] := hl
  have hB31 : ∀ (w : Wo), B_X6_restore_31 w = some r → ∀ (H : Heap) (locs : List Loc) (ls : Array Slot), St P s w H locs → lv_has ls 1 [(0, .ref (P.2.1 26))] → W p l e (rmU 3 0 0) s m args below meth c H locs 0 0 (QI P (some .int) r.1 r.2 below args s) (F0 m 31 ls []) := by
    intro w h H locs ls hP hl
    unfold B_X6_restore_31 at h
    refine lv_aload_n hx hb dX6_restore_31 rfl (lv_at hl 0 rfl) ?_
    refine lv_aload_n hx hb dX6_restore_32 rfl (lv_at hl 0 rfl) ?_
    obtain ⟨q2, hq2, h⟩ := ob h
    refine vu_i hP (vu_V S hF hP (h := 26) (hlt _ (by decide)) rfl (by decide) rfl (c_X6_homes l P hA hn w hq2) ok_X6_homes ml_X6_134 ⟨Nat.le_of_ble_eq_true rfl, Nat.le_of_ble_eq_true rfl⟩ rfl hl.1 rfl (Nat.le_of_ble_eq_true rfl) dX6_restore_33 ⟨Nat.le_of_ble_eq_true rfl, Nat.le_of_ble_eq_true rfl⟩) (fun H locs ho3 hP => ?_)
    obtain ⟨q4, hq4, h⟩ := ob h
    refine vu_i hP (vu_V S hF hP (h := 26) (hlt _ (by decide)) rfl (by decide) rfl (c_X6_done l P hA hn q2.2 q2.1 hq4) ok_X6_done ml_X6_81 ⟨Nat.le_of_ble_eq_true rfl, Nat.le_of_ble_eq_true rfl⟩ rfl hl.1 rfl (Nat.le_of_ble_eq_true rfl) dX6_restore_36 ⟨Nat.le_of_ble_eq_true rfl, Nat.le_of_ble_eq_true rfl⟩) (fun H locs ho5 hP => ?_)
    obtain rfl := Option.some.inj h
    exact ve_i (v := q4.1) S hF hP hr hk rfl dX6_restore_39
  unfold F_X6_restore at h
  refine lv_aload_n hx hb dX6_restore_0 rfl (lv_at hl 0 rfl) ?_
  refine vt_getI S hF hP (k := 5) (ci := 6) 26 (hlt _ (by decide)) rfl (by decide) rfl (by decide) rfl (inC_X6 _) (List.mem_cons_of_mem _ fl_X6_263) dX6_restore_1 ?_
  refine lv_if_ne (tgt := 13) hx hb dX6_restore_4 (by decide) (fun c8 => ?_) (fun c8 => ?_)
  · rw [if_neg c8] at h
    refine lv_aload_n hx hb dX6_restore_13 rfl (lv_at hl 0 rfl) ?_
    refine vt_getR (r := 30) S hF hP (k := 4) (ci := 6) 26 (hlt _ (by decide)) rfl (by decide) rfl (by decide) rfl rfl (inC_X6 _) (List.mem_cons_of_mem _ fl_X6_19) dX6_restore_14 ?_
    refine lv_iconst (v := 0) hx hb dX6_restore_17 (by decide) ?_
    refine lv_aload_n hx hb dX6_restore_18 rfl (lv_at hl 0 rfl) ?_
    refine vt_getR (r := 27) S hF hP (k := 0) (ci := 6) 26 (hlt _ (by decide)) rfl (by decide) rfl (by decide) rfl rfl (inC_X6 _) (List.mem_cons_of_mem _ fl_X6_7) dX6_restore_19 ?_
    refine lv_iconst (v := 0) hx hb dX6_restore_22 (by decide) ?_
    obtain ⟨q1, hq1, h⟩ := ob h
    refine vu_v hP (vu_S S hF hP (c_X6_copy l P hA hn 30 32 27 32 rfl (by decide) rfl (by decide) w 0 0 hq1) ok_X6_copy ml_X6_59 ⟨Nat.le_of_ble_eq_true rfl, Nat.le_of_ble_eq_true rfl⟩ rfl hl.1 rfl (Nat.le_of_ble_eq_true rfl) dX6_restore_23 ⟨Nat.le_of_ble_eq_true rfl, Nat.le_of_ble_eq_true rfl⟩) (fun H locs hP => ?_)
    refine lv_aload_n hx hb dX6_restore_26 rfl (lv_at hl 0 rfl) ?_
    refine lv_iconst (v := 0) hx hb dX6_restore_27 (by decide) ?_
    refine vt_putI S hF hP (k := 3) (ci := 6) 26 (hlt _ (by decide)) rfl (by decide) rfl (by decide) rfl tyX6 tyX6_ok nmX6 rfl rfl rfl rfl (by decide) (inC_X6 _) (List.mem_cons_of_mem _ fl_X6_63) dX6_restore_28 (fun H locs hP => ?_)
    exact hB31 _ h _ _ _ hP (lv_sub hl [0] rfl)
  · rw [if_pos c8] at h
    refine lv_aload_n hx hb dX6_restore_7 rfl (lv_at hl 0 rfl) ?_
    refine lv_iconst (v := 1) hx hb dX6_restore_8 (by decide) ?_
    obtain ⟨q6, hq6, h⟩ := ob h
    refine vu_i hP (vu_V S hF hP (h := 26) (hlt _ (by decide)) rfl (by decide) rfl (c_X6_fails l P hA hn w 1 hq6) ok_X6_fails ml_X6_77 ⟨Nat.le_of_ble_eq_true rfl, Nat.le_of_ble_eq_true rfl⟩ rfl hl.1 rfl (Nat.le_of_ble_eq_true rfl) dX6_restore_9 ⟨Nat.le_of_ble_eq_true rfl, Nat.le_of_ble_eq_true rfl⟩) (fun H locs ho7 hP => ?_)
    obtain rfl := Option.some.inj h
    exact ve_i (v := q6.1) S hF hP hr hk rfl dX6_restore_12
