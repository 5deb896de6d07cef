set_option maxRecDepth 100000 in
set_option maxHeartbeats 4000000 in
theorem c_J0_coder (l : Launch) {a v n : Nat} {f : Nat → Int32} : CtT l yJ0_coder_7d493 cJ0_coder_7d493 1 (some .byte) 0 [.ref a] (TxB a v n f) 0 := by
  refine tm_met (by decide +kernel) (Nat.le_of_ble_eq_true rfl) (fun p e s m args below meth c ls S hB hl hr hk hnm => ?_)
  have hx := S.1
  have hb := S.2.1
  replace hl : lv_has ls 1 [(0, .ref a)] := hl
  obtain ⟨hX, hT⟩ := hB
  have hS : va_S NoA s.heap s.heap [] := va_S.rf
  refine va_gets hx hb hX.1 hS S.2.2.2.1 (S.2.2.2.2 _ (List.mem_cons_of_mem _ tf_J0_38)) (fun _ z => z) dJ0_coder_7d493_0 ?_
  refine lv_if_eq (tgt := 13) hx hb dJ0_coder_7d493_3 (by decide) (fun c9 => absurd c9 (by decide)) (fun _ => ?_)
  refine lv_aload_n hx hb dJ0_coder_7d493_6 rfl (lv_at hl 0 rfl) ?_
  refine vk_getf hx hb hT.2.1 hS S.2.2.2.1 (S.2.2.2.2 _ (List.mem_cons_of_mem _ tf_J0_15)) (fun _ z => z) dJ0_coder_7d493_7 ?_
  refine lv_goto (tgt := 14) hx hb dJ0_coder_7d493_10 (by decide) ?_
  exact te_i S hS hr hk rfl dJ0_coder_7d493_14
set_option maxRecDepth 100000 in
set_option maxHeartbeats 4000000 in
theorem c_J0_isLatin1 (l : Launch) {a v n : Nat} {f : Nat → Int32} : CtT l yJ0_isLatin1_aae02 cJ0_isLatin1_aae02 1 (some .boolean) 0 [.ref a] (TxB a v n f) 1 := by
  refine tm_met (by decide +kernel) (Nat.le_of_ble_eq_true rfl) (fun p e s m args below meth c ls S hB hl hr hk hnm => ?_)
  have hx := S.1
  have hb := S.2.1
  replace hl : lv_has ls 1 [(0, .ref a)] := hl
  obtain ⟨hX, hT⟩ := hB
  have hS : va_S NoA s.heap s.heap [] := va_S.rf
  refine va_gets hx hb hX.1 hS S.2.2.2.1 (S.2.2.2.2 _ (List.mem_cons_of_mem _ tf_J0_38)) (fun _ z => z) dJ0_isLatin1_aae02_0 ?_
  refine lv_if_eq (tgt := 17) hx hb dJ0_isLatin1_aae02_3 (by decide) (fun c9 => absurd c9 (by decide)) (fun _ => ?_)
  refine lv_aload_n hx hb dJ0_isLatin1_aae02_6 rfl (lv_at hl 0 rfl) ?_
  refine vk_getf hx hb hT.2.1 hS S.2.2.2.1 (S.2.2.2.2 _ (List.mem_cons_of_mem _ tf_J0_15)) (fun _ z => z) dJ0_isLatin1_aae02_7 ?_
  refine lv_if_ne (tgt := 17) hx hb dJ0_isLatin1_aae02_10 (by decide) (fun c9 => absurd rfl c9) (fun _ => ?_)
  refine lv_iconst (v := 1) hx hb dJ0_isLatin1_aae02_13 (by decide) ?_
  refine lv_goto (tgt := 18) hx hb dJ0_isLatin1_aae02_14 (by decide) ?_
  exact te_i S hS hr hk rfl dJ0_isLatin1_aae02_18
set_option maxRecDepth 100000 in
set_option maxHeartbeats 4000000 in
theorem c_J3_checkIndexN (l : Launch) {i n : Nat} (hi : i < n) (hn : n < 2 ^ 31) : CtT l yJ3_checkIndex_8e157 cJ3_checkIndex_8e157 3 (some .int) 0 [.int (nI i), .int (nI n), .null] (fun _ => True) (nI i) := by
  refine tm_met (by decide +kernel) (Nat.le_of_ble_eq_true rfl) (fun p e s m args below meth c ls S hB hl hr hk hnm => ?_)
  have hx := S.1
  have hb := S.2.1
  replace hl : lv_has ls 3 [(0, .int (nI i)), (1, .int (nI n)), (2, .null)] := hl
  have hS : va_S NoA s.heap s.heap [] := va_S.rf
  refine lv_iload_n hx hb dJ3_checkIndex_8e157_0 rfl (lv_at hl 0 rfl) ?_
  refine lv_if_lt (tgt := 9) hx hb dJ3_checkIndex_8e157_1 (by decide) (fun c9 => absurd c9 (nI_pos (by omega))) (fun _ => ?_)
  refine lv_iload_n hx hb dJ3_checkIndex_8e157_4 rfl (lv_at hl 0 rfl) ?_
  refine lv_iload_n hx hb dJ3_checkIndex_8e157_5 rfl (lv_at hl 1 rfl) ?_
  refine lv_icmp_lt (tgt := 16) hx hb dJ3_checkIndex_8e157_6 (by decide) (fun _ => ?_) (fun c9 => absurd (nI_lt hi (by omega)) c9)
  refine lv_iload_n hx hb dJ3_checkIndex_8e157_16 rfl (lv_at hl 0 rfl) ?_
  exact te_i S hS hr hk rfl dJ3_checkIndex_8e157_17
set_option maxRecDepth 100000 in
set_option maxHeartbeats 4000000 in
theorem c_J3_checkIndexR (l : Launch) {i n q : Nat} (hi : i < n) (hn : n < 2 ^ 31) : CtT l yJ3_checkIndex_8e157 cJ3_checkIndex_8e157 3 (some .int) 0 [.int (nI i), .int (nI n), .ref q] (fun _ => True) (nI i) := by
  refine tm_met (by decide +kernel) (Nat.le_of_ble_eq_true rfl) (fun p e s m args below meth c ls S hB hl hr hk hnm => ?_)
  have hx := S.1
  have hb := S.2.1
  replace hl : lv_has ls 3 [(0, .int (nI i)), (1, .int (nI n)), (2, .ref q)] := hl
  have hS : va_S NoA s.heap s.heap [] := va_S.rf
  refine lv_iload_n hx hb dJ3_checkIndex_8e157_0 rfl (lv_at hl 0 rfl) ?_
  refine lv_if_lt (tgt := 9) hx hb dJ3_checkIndex_8e157_1 (by decide) (fun c9 => absurd c9 (nI_pos (by omega))) (fun _ => ?_)
  refine lv_iload_n hx hb dJ3_checkIndex_8e157_4 rfl (lv_at hl 0 rfl) ?_
  refine lv_iload_n hx hb dJ3_checkIndex_8e157_5 rfl (lv_at hl 1 rfl) ?_
  refine lv_icmp_lt (tgt := 16) hx hb dJ3_checkIndex_8e157_6 (by decide) (fun _ => ?_) (fun c9 => absurd (nI_lt hi (by omega)) c9)
  refine lv_iload_n hx hb dJ3_checkIndex_8e157_16 rfl (lv_at hl 0 rfl) ?_
  exact te_i S hS hr hk rfl dJ3_checkIndex_8e157_17
set_option maxRecDepth 100000 in
set_option maxHeartbeats 4000000 in
theorem c_J0_checkIndex (l : Launch) {i n : Nat} (hi : i < n) (hn : n < 2 ^ 31) : CtTv l yJ0_checkIndex_df160 cJ0_checkIndex_df160 2 1 [.int (nI i), .int (nI n)] (fun U => SxA NoA U U.heap) := by
  refine tm_met (by decide +kernel) (Nat.le_of_ble_eq_true rfl) (fun p e s m args below meth c ls S hB hl hr hk hnm => ?_)
  have hx := S.1
  have hb := S.2.1
  replace hl : lv_has ls 2 [(0, .int (nI i)), (1, .int (nI n))] := hl
  have hX := hB
  have hS : va_S NoA s.heap s.heap [] := va_S.rf
  refine lv_iload_n hx hb dJ0_checkIndex_df160_0 rfl (lv_at hl 0 rfl) ?_
  refine lv_iload_n hx hb dJ0_checkIndex_df160_1 rfl (lv_at hl 1 rfl) ?_
  rcases hX.2 with hq | ⟨q, hq⟩
  · refine va_gets hx hb hq hS S.2.2.2.1 (S.2.2.2.2 _ (List.mem_cons_of_mem _ tf_J0_1053)) (fun _ z => z) dJ0_checkIndex_df160_2 ?_
    refine tt_i hS (tt_S S (fun _ _ _ => trivial) (fun _ _ _ _ h => h) (c_J3_checkIndexN l hi hn) to_J3_checkIndex_8e157 tl_J0_1059 ⟨(Nat.le_of_ble_eq_true rfl), (Nat.le_of_ble_eq_true rfl)⟩ rfl hl.1 rfl (Nat.le_of_ble_eq_true rfl) dJ0_checkIndex_df160_5 ⟨(Nat.le_of_ble_eq_true rfl), (Nat.le_of_ble_eq_true rfl)⟩) (fun H locs ho hz hk9 hS => ?_)
    refine lv_pop hx hb dJ0_checkIndex_df160_8 rfl ?_
    exact te_v S hS hr hk dJ0_checkIndex_df160_9
  · refine va_gets hx hb hq hS S.2.2.2.1 (S.2.2.2.2 _ (List.mem_cons_of_mem _ tf_J0_1053)) (fun _ z => z) dJ0_checkIndex_df160_2 ?_
    refine tt_i hS (tt_S S (fun _ _ _ => trivial) (fun _ _ _ _ h => h) (c_J3_checkIndexR l hi hn) to_J3_checkIndex_8e157 tl_J0_1059 ⟨(Nat.le_of_ble_eq_true rfl), (Nat.le_of_ble_eq_true rfl)⟩ rfl hl.1 rfl (Nat.le_of_ble_eq_true rfl) dJ0_checkIndex_df160_5 ⟨(Nat.le_of_ble_eq_true rfl), (Nat.le_of_ble_eq_true rfl)⟩) (fun H locs ho hz hk9 hS => ?_)
    refine lv_pop hx hb dJ0_checkIndex_df160_8 rfl ?_
    exact te_v S hS hr hk dJ0_checkIndex_df160_9
set_option maxRecDepth 100000 in
set_option maxHeartbeats 4000000 in
theorem c_J1_charAt (l : Launch) {v i : Nat} {cs : List Nat} (ha : ascii cs) (hi : i < cs.length) : CtT l yJ1_charAt_3b067 cJ1_charAt_3b067 2 (some .char) 2 [.ref v, .int (nI i)] (fun U => SxA NoA U U.heap ∧ va_T .byte v cs.length (fun j => .int (txf cs j)) NoA U U.heap) (nI (cs.getD i 0)) := by
  refine tm_met (by decide +kernel) (Nat.le_of_ble_eq_true rfl) (fun p e s m args below meth c ls S hB hl hr hk hnm => ?_)
  have hx := S.1
  have hb := S.2.1
  replace hl : lv_has ls 2 [(0, .ref v), (1, .int (nI i))] := hl
  obtain ⟨hX, hT⟩ := hB
  have hS : va_S NoA s.heap s.heap [] := va_S.rf
  have hlen := ha.2
  have hc := txt_128 _ (ha.at i)
  refine lv_iload_n hx hb dJ1_charAt_3b067_0 rfl (lv_at hl 1 rfl) ?_
  refine lv_aload_n hx hb dJ1_charAt_3b067_1 rfl (lv_at hl 0 rfl) ?_
  refine va_tlen hx hb hT hS (v := nI cs.length) rfl dJ1_charAt_3b067_2 ?_
  refine tt_v hS (tt_S S (fun U hU hW => hX.at hS (fun _ h => h.elim) hU hW) (SxA.bl) (c_J0_checkIndex l hi hlen) to_J0_checkIndex_df160 tl_J1_9 ⟨(Nat.le_of_ble_eq_true rfl), (Nat.le_of_ble_eq_true rfl)⟩ rfl hl.1 rfl (Nat.le_of_ble_eq_true rfl) dJ1_charAt_3b067_3 ⟨(Nat.le_of_ble_eq_true rfl), (Nat.le_of_ble_eq_true rfl)⟩) (fun H locs hz hk9 hS => ?_)
  refine lv_aload_n hx hb dJ1_charAt_3b067_6 rfl (lv_at hl 0 rfl) ?_
  refine lv_iload_n hx hb dJ1_charAt_3b067_7 rfl (lv_at hl 1 rfl) ?_
  refine va_tb hx hb hT hS (vp_in_nI hi hlen) (v := .int (nI (cs.getD i 0))) (by rw [nI_clamp (by omega)]; rfl) dJ1_charAt_3b067_8 ?_
  refine lv_sipush (v := 255) hx hb dJ1_charAt_3b067_9 (by decide) ?_
  refine lv_iand hx hb dJ1_charAt_3b067_12 ?_
  rw [hc.1]
  refine lv_i2c hx hb dJ1_charAt_3b067_13 hc.2.1 ?_
  exact te_i S hS hr hk hc.2.2.1 dJ1_charAt_3b067_14
set_option maxRecDepth 100000 in
set_option maxHeartbeats 4000000 in
theorem c_J0_length (l : Launch) {a v : Nat} {cs : List Nat} (ha : ascii cs) : CtT l yJ0_length_8abf5 cJ0_length_8abf5 1 (some .int) 1 [.ref a] (TxB a v cs.length (txf cs)) (nI cs.length) := by
  refine tm_met (by decide +kernel) (Nat.le_of_ble_eq_true rfl) (fun p e s m args below meth c ls S hB hl hr hk hnm => ?_)
  have hx := S.1
  have hb := S.2.1
  replace hl : lv_has ls 1 [(0, .ref a)] := hl
  obtain ⟨hX, hT⟩ := hB
  have hS : va_S NoA s.heap s.heap [] := va_S.rf
  have hlen := ha.2
  refine lv_aload_n hx hb dJ0_length_8abf5_0 rfl (lv_at hl 0 rfl) ?_
  refine vk_getf hx hb hT.2.2.1 hS S.2.2.2.1 (S.2.2.2.2 _ (List.mem_cons_of_mem _ tf_J0_9)) (fun _ z => z) dJ0_length_8abf5_1 ?_
  refine va_tlen hx hb hT.2.2.2 hS (v := nI cs.length) rfl dJ0_length_8abf5_4 ?_
  refine lv_aload_n hx hb dJ0_length_8abf5_5 rfl (lv_at hl 0 rfl) ?_
  refine tt_i hS (tt_V S (C := "java/lang/String") (hT.recv hS) (TxB.at hX hT hS) (TxB.bl) (c_J0_coder l (a := a) (v := v) (n := cs.length) (f := txf cs)) ⟨to_J0_coder_7d493.1, to_J0_coder_7d493.2.2.1, to_J0_coder_7d493.2.2.2.1, to_J0_coder_7d493.2.2.2.2.1, to_J0_coder_7d493.2.2.2.2.2.1, to_J0_coder_7d493.2.2.2.2.2.2⟩ (S.2.2.2.2 _ (List.mem_cons_of_mem _ to_J0_coder_7d493.2.1)) tl_J0_335 ⟨(Nat.le_of_ble_eq_true rfl), (Nat.le_of_ble_eq_true rfl)⟩ rfl hl.1 rfl (Nat.le_of_ble_eq_true rfl) dJ0_length_8abf5_6 ⟨(Nat.le_of_ble_eq_true rfl), (Nat.le_of_ble_eq_true rfl)⟩) (fun H locs ho hz hk9 hS => ?_)
  refine lv_ishr hx hb dJ0_length_8abf5_9 ?_
  rw [show nI cs.length >>> ((0 : Int32) &&& 31) = nI cs.length from sb_shr0 _]
  exact te_i S hS hr hk rfl dJ0_length_8abf5_10
set_option maxRecDepth 100000 in
set_option maxHeartbeats 4000000 in
theorem c_J0_charAt (l : Launch) {a v i : Nat} {cs : List Nat} (ha : ascii cs) (hi : i < cs.length) : CtT l yJ0_charAt_5068e cJ0_charAt_5068e 2 (some .char) 3 [.ref a, .int (nI i)] (TxB a v cs.length (txf cs)) (nI (cs.getD i 0)) := by
  refine tm_met (by decide +kernel) (Nat.le_of_ble_eq_true rfl) (fun p e s m args below meth c ls S hB hl hr hk hnm => ?_)
  have hx := S.1
  have hb := S.2.1
  replace hl : lv_has ls 2 [(0, .ref a), (1, .int (nI i))] := hl
  obtain ⟨hX, hT⟩ := hB
  have hS : va_S NoA s.heap s.heap [] := va_S.rf
  have hc := txt_128 _ (ha.at i)
  refine lv_aload_n hx hb dJ0_charAt_5068e_0 rfl (lv_at hl 0 rfl) ?_
  refine tt_i hS (tt_V S (C := "java/lang/String") (hT.recv hS) (TxB.at hX hT hS) (TxB.bl) (c_J0_isLatin1 l (a := a) (v := v) (n := cs.length) (f := txf cs)) ⟨to_J0_isLatin1_aae02.1, to_J0_isLatin1_aae02.2.2.1, to_J0_isLatin1_aae02.2.2.2.1, to_J0_isLatin1_aae02.2.2.2.2.1, to_J0_isLatin1_aae02.2.2.2.2.2.1, to_J0_isLatin1_aae02.2.2.2.2.2.2⟩ (S.2.2.2.2 _ (List.mem_cons_of_mem _ to_J0_isLatin1_aae02.2.1)) tl_J0_492 ⟨(Nat.le_of_ble_eq_true rfl), (Nat.le_of_ble_eq_true rfl)⟩ rfl hl.1 rfl (Nat.le_of_ble_eq_true rfl) dJ0_charAt_5068e_1 ⟨(Nat.le_of_ble_eq_true rfl), (Nat.le_of_ble_eq_true rfl)⟩) (fun H locs ho hz hk9 hS => ?_)
  refine lv_if_eq (tgt := 16) hx hb dJ0_charAt_5068e_4 (by decide) (fun c9 => absurd c9 (by decide)) (fun _ => ?_)
  refine lv_aload_n hx hb dJ0_charAt_5068e_7 rfl (lv_at hl 0 rfl) ?_
  refine vk_getf hx hb hT.2.2.1 hS S.2.2.2.1 (S.2.2.2.2 _ (List.mem_cons_of_mem _ tf_J0_9)) (fun _ z => z) dJ0_charAt_5068e_8 ?_
  refine lv_iload_n hx hb dJ0_charAt_5068e_11 rfl (lv_at hl 1 rfl) ?_
  refine tt_i hS (tt_S S (fun U hU hW => ⟨hX.at hS (fun _ h => h.elim) hU hW, (TxB.at hX hT hS U hU hW).2.2.2.2⟩) (fun U _ _ _ h => ⟨h.1.moved (Vm.Alike.refl U.vm), va_T.moved (Vm.Alike.refl U.vm) h.2⟩) (c_J1_charAt l (v := v) ha hi) to_J1_charAt_3b067 tl_J0_495 ⟨(Nat.le_of_ble_eq_true rfl), (Nat.le_of_ble_eq_true rfl)⟩ rfl hl.1 rfl (Nat.le_of_ble_eq_true rfl) dJ0_charAt_5068e_12 ⟨(Nat.le_of_ble_eq_true rfl), (Nat.le_of_ble_eq_true rfl)⟩) (fun H locs ho hz hk9 hS => ?_)
  exact te_i S hS hr hk hc.2.2.1 dJ0_charAt_5068e_15
