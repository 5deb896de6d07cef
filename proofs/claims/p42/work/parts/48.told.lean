/-! toString -/
abbrev stB (D : va_G) (cA : Nat → ClassId) (a b v n n0 : Nat) (f : Nat → Int32) : State → Prop := fun U => va_P D vc [STn a, SBo b v n, SBa cA v f] U.heap ∧ va_K D vc (tyl cA) U ∧ SxA (AS a b v n0) U U.heap ∧ Ncl U ∧ U.heap.size = n0
abbrev tsB (D : va_G) (cA : Nat → ClassId) (b v n n0 : Nat) (f : Nat → Int32) : State → Prop := fun U => va_P D vc (SBw cA b v n f) U.heap ∧ va_K D vc (tyl cA) U ∧ SxA (fun q => q = b ∨ q = v ∨ n0 ≤ q) U U.heap ∧ Ncl U ∧ U.heap.size = n0
section TOS
variable {D : va_G} {cA : Nat → ClassId} {a b v n n0 w : Nat} {f : Nat → Int32} {s : State} {H : Heap}
theorem stB.bl (U : State) (g0 : JFrame) (mk : MethodId) (a' : Array Value) (h : stB D cA a b v n n0 f U) : stB D cA a b v n n0 f (U.calling g0 mk a') := ⟨h.1, va_K.moved (Vm.Alike.refl U.vm) h.2.1, h.2.2.1.moved (Vm.Alike.refl U.vm), va_Nw.same rfl rfl h.2.2.2.1, h.2.2.2.2⟩
theorem tsB.bl (U : State) (g0 : JFrame) (mk : MethodId) (a' : Array Value) (h : tsB D cA b v n n0 f U) : tsB D cA b v n n0 f (U.calling g0 mk a') := ⟨h.1, va_K.moved (Vm.Alike.refl U.vm) h.2.1, h.2.2.1.moved (Vm.Alike.refl U.vm), va_Nw.same rfl rfl h.2.2.2.1, h.2.2.2.2⟩
/-- a String of the world is a text -/
theorem tx_of {A : Nat → Prop} {args : Array Value} {Ts : List Cond} (hts : ∀ x ∈ Ts, x.before args s = true) (hin : ∀ x ∈ u_ws RJ0 TJ0 4, x ∈ Ts) (hK : va_K D vc (tyl cA) s) (hP : va_P D vc [STo a w, BYt cA w n f] H) (ha : ¬ A a) (hw : ¬ A w) : TxA A a w n f s H := by
  obtain ⟨r, h1, cell, q1, q2, q3, q4⟩ := hP 0 _ rfl
  have hr : r = (RJ0, TJ0, 4) := Option.some.inj (h1.symm.trans rfl)
  subst hr
  obtain ⟨hS, hfc, kC, hkC, hkind⟩ := hK.1 7 _ rfl
  have hb := hP 1 _ rfl
  have hf : ∀ (k : Nat) (hk : k < 4) (x : Value), ([.ref w, .int 0, .int 0, .int 0] : List Value)[k]? = some x → va_OF (TJ0 k).1 (TJ0 k).2.1 (TJ0 k).2.2.1 x a A s H := by
    intro k hk x hx
    obtain ⟨cf, kf, fi, g, hi, hsl⟩ := hS k hk
    refine ⟨cf, kf, fi, g, cell, hi, (u_facts hfc hkC (u_lays hts hin hk) hi).1, q1, (by rw [q3]; exact fun h => by cases h), ?_, ha⟩
    rw [hsl, q4 k hk]
    simp [vp_V, hx]
  refine ⟨⟨cell, q1, by rw [q3]; rfl, by rw [q2]; exact hfc, ha⟩, hf 1 (by decide) _ rfl, hf 0 (by decide) _ rfl, vp_cell (cA 3) (n, .inl f), hb, (hK.2 3 _ rfl).1 n (fun j => .int (f j)), (fun h => by cases h), ?_, ?_, fun j hj => ?_, hw⟩
  · rw [vp_cell_i, arrV_size]
    exact Nat.le_refl _
  · rw [vp_cell_i, arrV_size]
  · rw [vp_cell_i]
    unfold arrV
    simp [hj]
end TOS
theorem tl_J0_549 : Cond.methodLink RJ0 549 yJ5_length_8abf5 ∈ ALLW := inA 1253 (by decide +kernel) (by decide +kernel)
theorem ts_len54 : Cond.selects "java/lang/StringBuilder" yJ5_length_8abf5 yJ4_length_8abf5 ∈ ALLW := inA 1256 (by decide +kernel) (by decide +kernel)
theorem to_J4_length_8abf5 : okB yJ4_length_8abf5 cJ4_length_8abf5 1 (some .int) 0 := ⟨inA 1257 (by decide +kernel) (by decide +kernel), inA 54 (by decide +kernel) (by decide +kernel), inA 1258 (by decide +kernel) (by decide +kernel), by decide +kernel, by decide +kernel, by decide +kernel⟩
theorem to_J5_getValue_6d5f1 : okB yJ5_getValue_6d5f1 cJ5_getValue_6d5f1 1 (some (.array .byte)) 0 := ⟨inA 1249 (by decide +kernel) (by decide +kernel), inA 53 (by decide +kernel) (by decide +kernel), inA 1252 (by decide +kernel) (by decide +kernel), by decide +kernel, by decide +kernel, by decide +kernel⟩
theorem tl_J0_552 : Cond.methodLink RJ0 552 yJ5_getValue_6d5f1 ∈ ALLW := inA 1248 (by decide +kernel) (by decide +kernel)
theorem tl_J0_1047 : Cond.methodLink RJ0 1047 yJ5_isLatin1_aae02 ∈ ALLW := inA 1261 (by decide +kernel) (by decide +kernel)
theorem to_J7_copyOfRange_39247 : okS yJ7_copyOfRange_39247 cJ7_copyOfRange_39247 3 (some (.array .byte)) 3 := ⟨inA 1263 (by decide +kernel) (by decide +kernel), inA 57 (by decide +kernel) (by decide +kernel), inA 1264 (by decide +kernel) (by decide +kernel), by decide +kernel, by decide +kernel, by decide +kernel⟩
theorem tl_J0_54 : Cond.methodLink RJ0 54 yJ7_copyOfRange_39247 ∈ ALLW := inA 1262 (by decide +kernel) (by decide +kernel)
theorem ts_J5_getValue_6d5f1 : Cond.selects "java/lang/StringBuilder" yJ5_getValue_6d5f1 yJ5_getValue_6d5f1 ∈ ALLW := inA 1251 (by decide +kernel) (by decide +kernel)
theorem to_J0_init_db425 : okI yJ0_init_db425 cJ0_init_db425 5 2 := ⟨inA 1245 (by decide +kernel) (by decide +kernel), inA 46 (by decide +kernel) (by decide +kernel), inA 1246 (by decide +kernel) (by decide +kernel), by decide +kernel, by decide +kernel, by decide +kernel, rfl⟩
theorem tl_J0_489 : Cond.methodLink RJ0 489 yJ0_init_db425 ∈ ALLW := inA 1244 (by decide +kernel) (by decide +kernel)
theorem to_J0_init_81219 : okI yJ0_init_81219 cJ0_init_81219 2 1 := ⟨inA 1242 (by decide +kernel) (by decide +kernel), inA 46 (by decide +kernel) (by decide +kernel), inA 1243 (by decide +kernel) (by decide +kernel), by decide +kernel, by decide +kernel, by decide +kernel, rfl⟩
theorem tl_J4_137 : Cond.methodLink RJ4 137 yJ0_init_81219 ∈ ALLW := inA 1241 (by decide +kernel) (by decide +kernel)
theorem tk_J4_18 : Cond.classLink RJ4 18 RJ0 ∈ ALLW := inA 1240 (by decide +kernel) (by decide +kernel)
theorem tin_J0 : Cond.instantiable RJ0 4 ∈ ALLW := inA 1050 (by decide +kernel) (by decide +kernel)
theorem tii_J0 : Cond.initialized RJ0 ∈ ALLW := inA 46 (by decide +kernel) (by decide +kernel)
theorem st_D {cA : Nat → ClassId} {a b v n n0 : Nat} {f : Nat → Int32} {x y : Value} (hab : a ≠ b ∧ a ≠ v ∧ b ≠ v) : va_D (AS a b v n0) [(a, .inr (7, [x, y, .int 0, .int 0])), SBo b v n, SBa cA v f] := by
  refine ⟨fun i j p q hi hj e => ?_, fun i q hi => ?_⟩
  · match i, j, hi, hj with
    | 0, 0, _, _ => rfl
    | 1, 1, _, _ => rfl
    | 2, 2, _, _ => rfl
    | 0, 1, hi, hj => cases hi; cases hj; exact absurd e hab.1
    | 1, 0, hi, hj => cases hi; cases hj; exact absurd e.symm hab.1
    | 0, 2, hi, hj => cases hi; cases hj; exact absurd e hab.2.1
    | 2, 0, hi, hj => cases hi; cases hj; exact absurd e.symm hab.2.1
    | 1, 2, hi, hj => cases hi; cases hj; exact absurd e hab.2.2
    | 2, 1, hi, hj => cases hi; cases hj; exact absurd e.symm hab.2.2
    | i + 3, _, hi, _ => simp at hi
    | 0, j + 3, _, hj => simp at hj
    | 1, j + 3, _, hj => simp at hj
    | 2, j + 3, _, hj => simp at hj
  · match i, hi with
    | 0, hi => cases hi; exact Or.inl rfl
    | 1, hi => cases hi; exact Or.inr (Or.inl rfl)
    | 2, hi => cases hi; exact Or.inr (Or.inr (Or.inl rfl))
    | i + 3, hi => simp at hi
set_option maxRecDepth 100000 in
set_option maxHeartbeats 4000000 in
theorem c_J0_init2 (l : Launch) {D : va_G} {cA : Nat → ClassId} {a b v n n0 : Nat} {f : Nat → Int32} (hn : n ≤ 16) (hf : ∀ j, j < n → fits .byte (.int (f j)) = true) (hab : a ≠ b ∧ a ≠ v ∧ b ≠ v) : Met l yJ0_init_db425 (wsU yJ0_init_db425 cJ0_init_db425 5 none) (rmU 3 1 16) (va_Pc [.ref a, .ref b, .null] (stB D cA a b v n n0 f)) (va_Qv (fun (u : Nat × (Nat → Int32)) => n0 ≤ u.1 ∧ ∀ j, j < n → u.2 j = f j) (fun u t => va_P D vc [STo a u.1, BYt cA u.1 n u.2] t.heap) (AS a b v n0)) 1 16 (AS a b v n0) := by
  refine tm_met (by decide +kernel) (Nat.le_of_ble_eq_true rfl) (fun p e s m args below meth c ls S hB hl hr hk hnm => ?_)
  have hx := S.1
  have hb := S.2.1
  replace hl : lv_has ls 5 [(0, .ref a), (1, .ref b), (2, .null)] := hl
  obtain ⟨hP, hK, hX, hnc, hz0⟩ := hB
  have hS : va_S (AS a b v n0) s.heap s.heap [] := va_S.rf
  have hna : a < n0 := by
    have h9 := (hP 0 _ rfl).lt
    have h8 : a < s.heap.size := h9
    omega
  have hst := hz0
  replace hz0 : n0 ≤ s.heap.size := by omega
  refine lv_aload_n hx hb dJ0_init_db425_0 rfl (lv_at hl 0 rfl) ?_
  refine vk_obj S tl_J0_1 ob_inst ob_code hl.1 dJ0_init_db425_1 (Nat.le_of_ble_eq_true rfl) (Nat.le_of_ble_eq_true rfl) ?_
  refine lv_aload_n hx hb dJ0_init_db425_4 rfl (lv_at hl 1 rfl) ?_
  refine va_callr (tt_V S (C := "java/lang/StringBuilder") (va_recv (q := (RJ4, TJ4, 4)) hK hP rfl (show ([(a, .inr (7, [.null, .int 0, .int 0, .int 0])), SBo b v n, SBa cA v f] : va_W)[1]? = some (b, .inr (6, _)) from rfl)) (sbB.at (hP.sub [1, 2] rfl) hK hX hS (fun _ h => h.elim)) (sbB.bl) (c_J5_getValue l) to_J5_getValue_6d5f1 (S.2.2.2.2 _ (List.mem_cons_of_mem _ ts_J5_getValue_6d5f1)) tl_J0_552 ⟨(Nat.le_of_ble_eq_true rfl), (Nat.le_of_ble_eq_true rfl)⟩ rfl hl.1 rfl (Nat.le_of_ble_eq_true rfl) dJ0_init_db425_5 ⟨(Nat.le_of_ble_eq_true rfl), (Nat.le_of_ble_eq_true rfl)⟩) hS (fun _ _ h => h.elim) (fun _ h => h.elim) (fun u v9 t H locs ht _ _ hw hz hk9 hS => ?_)
  replace hP := hP.kept (fun i q hq => hk9 _ (hP i q hq).lt id)
  have hz0 : n0 ≤ H.size := by omega
  rw [show v9 = v from hw]
  refine lv_astore_n (lv' := [(3, .ref v), (0, .ref a), (1, .ref b), (2, .null)]) hx hb dJ0_init_db425_8 rfl hl (by decide) rfl (fun ls hl => ?_)
  refine lv_aload_n hx hb dJ0_init_db425_9 rfl (lv_at hl 2 rfl) ?_
  refine tt_i hS (va_runU S (c_J4_length l) (va_cwO (C := "java/lang/StringBuilder") (owner := RJ5) (x := yJ5_length_8abf5) 0 S.2.2.2.2 (consG tl_J0_549 (consG tm_length (consG to_J5_length_8abf5.1 (consG ts_len54 (consG to_J4_length_8abf5.1 (consG to_J4_length_8abf5.2.1 (consG to_J4_length_8abf5.2.2.1 allG))))))) rfl rfl rfl (List.mem_cons_of_mem _ to_J5_length_8abf5.2.2.1) ⟨by decide, by decide, by decide +kernel⟩ ⟨(Nat.le_of_ble_eq_true rfl), (Nat.le_of_ble_eq_true rfl)⟩) ⟨fun _ _ _ _ q => ⟨q.1, sbB.bl _ _ _ _ q.2⟩, (va_recv (q := (RJ4, TJ4, 4)) hK hP rfl (show ([(a, .inr (7, [.null, .int 0, .int 0, .int 0])), SBo b v n, SBa cA v f] : va_W)[1]? = some (b, .inr (6, _)) from rfl)), fun U hU hW => ⟨rfl, sbB.at (hP.sub [1, 2] rfl) hK hX hS (fun _ h => h.elim) U hU hW⟩⟩ rfl rfl hl.1 rfl (lv_room (Nat.le_of_ble_eq_true rfl)) dJ0_init_db425_10 ⟨(Nat.le_of_ble_eq_true rfl), (Nat.le_of_ble_eq_true rfl)⟩) (fun H locs ho hz hk9 hS => ?_)
  replace hP := hP.kept (fun i q hq => hk9 _ (hP i q hq).lt)
  have hz0 : n0 ≤ H.size := by omega
  refine lv_istore (lv' := [(4, .int (nI n)), (3, .ref v), (0, .ref a), (1, .ref b), (2, .null)]) hx hb dJ0_init_db425_13 hl (by decide) rfl (fun ls hl => ?_)
  refine lv_aload_n hx hb dJ0_init_db425_15 rfl (lv_at hl 3 rfl) ?_
  refine tt_i hS (tt_V S (C := "java/lang/StringBuilder") (va_recv (q := (RJ4, TJ4, 4)) hK hP rfl (show ([(a, .inr (7, [.null, .int 0, .int 0, .int 0])), SBo b v n, SBa cA v f] : va_W)[1]? = some (b, .inr (6, _)) from rfl)) (sbB.at (hP.sub [1, 2] rfl) hK hX hS (fun _ h => h.elim)) (sbB.bl) (c_J5_isLatin1 l) to_J5_isLatin1_aae02 (S.2.2.2.2 _ (List.mem_cons_of_mem _ ts_J5_isLatin1_aae02)) tl_J0_1047 ⟨(Nat.le_of_ble_eq_true rfl), (Nat.le_of_ble_eq_true rfl)⟩ rfl hl.1 rfl (Nat.le_of_ble_eq_true rfl) dJ0_init_db425_16 ⟨(Nat.le_of_ble_eq_true rfl), (Nat.le_of_ble_eq_true rfl)⟩) (fun H locs ho hz hk9 hS => ?_)
  replace hP := hP.kept (fun i q hq => hk9 _ (hP i q hq).lt)
  have hz0 : n0 ≤ H.size := by omega
  refine lv_if_eq (tgt := 41) hx hb dJ0_init_db425_19 (by decide) (fun c9 => absurd c9 (by decide)) (fun _ => ?_)
  refine lv_aload_n hx hb dJ0_init_db425_22 rfl (lv_at hl 2 rfl) ?_
  refine lv_iconst (v := 0) hx hb dJ0_init_db425_23 (by decide) ?_
  refine va_putF hx hb S.2.2.2.2 (inC_J0 _) tyJ0 tyJ0_ok nmJ0 S.2.2.2.1 hK hP (st_D hab) hS 0 rfl rfl 1 (by decide) (S.2.2.2.2 _ (List.mem_cons_of_mem _ tf_J0_15)) (fun _ z => z) rfl hnm rfl rfl rfl rfl (show 1 < 4 by decide) dJ0_init_db425_24 (fun H locs hP _ hS => ?_)
  replace hP : va_P D vc [(a, .inr (7, [.null, .int 0, .int 0, .int 0])), SBo b v n, SBa cA v f] H := hP
  refine lv_aload_n hx hb dJ0_init_db425_27 rfl (lv_at hl 2 rfl) ?_
  refine lv_aload_n hx hb dJ0_init_db425_28 rfl (lv_at hl 1 rfl) ?_
  refine lv_iconst (v := 0) hx hb dJ0_init_db425_29 (by decide) ?_
  refine lv_iload hx hb dJ0_init_db425_30 (lv_at hl 0 rfl) ?_
  have hsz : ∃ z, z = H.size := ⟨_, rfl⟩
  obtain ⟨z0, hz9⟩ := hsz
  have hzz : n0 ≤ z0 := by rw [hz9]; exact hst ▸ hS.1
  refine va_callr (tt_S S (fun U hU hW => ⟨by rw [hU]; exact hP.sub [2] rfl, va_K.moved hW.alike hK, va_Nw.warmC hW hnc, by rw [hU]; exact hz9.symm⟩) (fun U _ _ _ h => ⟨h.1, va_K.moved (Vm.Alike.refl U.vm) h.2.1, va_Nw.same rfl rfl h.2.2.1, h.2.2.2⟩) (c_J7_copyR l hn hf) to_J7_copyOfRange_39247 tl_J0_54 ⟨(Nat.le_of_ble_eq_true rfl), (Nat.le_of_ble_eq_true rfl)⟩ rfl hl.1 rfl (Nat.le_of_ble_eq_true rfl) dJ0_init_db425_32 ⟨(Nat.le_of_ble_eq_true rfl), (Nat.le_of_ble_eq_true rfl)⟩) hS (fun _ _ h => Or.inr (Or.inr (h.elim Or.inl (fun h => Or.inr (Nat.le_trans hzz h))))) (fun _ h => Or.inr (Or.inr (h.elim Or.inl (fun h => Or.inr (Nat.le_trans hzz h))))) (fun u w t H1 locs ht _ hu hw hz hk9 hS => ?_)
  rw [ht] at hw
  have hwn : n0 ≤ w := Nat.le_trans hzz hw.1
  have ha1 := (hP 0 _ rfl).kept (hk9 _ (hP 0 _ rfl).lt (fun h => h.elim hab.2.1 (fun h => by have h7 : z0 ≤ a := h; omega)))
  replace hP : va_P D vc [STn a, BYt cA w n u] H1 := two_P ha1 (hw.2 0 _ rfl)
  refine va_putF hx hb S.2.2.2.2 (inC_J0 _) tyJ0 tyJ0_ok nmJ0 S.2.2.2.1 hK hP (two_D (show a ≠ w by omega) (Or.inl rfl) (Or.inr (Or.inr (Or.inr hwn)))) hS 0 rfl rfl 0 (by decide) (S.2.2.2.2 _ (List.mem_cons_of_mem _ tf_J0_9)) (fun _ z => z) rfl hnm rfl rfl rfl rfl (show 0 < 4 by decide) dJ0_init_db425_35 (fun H locs hP _ hS => ?_)
  replace hP : va_P D vc [STo a w, BYt cA w n u] H := hP
  refine lv_goto (tgt := 97) hx hb dJ0_init_db425_38 (by decide) ?_
  exact W.vret hx hb hr (fun t ht _ => ⟨⟨(w, u), rfl, ⟨hwn, hu⟩, by rw [← ht] at hP; exact hP⟩, hS.F ht⟩) hS.2.2 dJ0_init_db425_97 hk
set_option maxRecDepth 100000 in
set_option maxHeartbeats 4000000 in
theorem c_J0_init1 (l : Launch) {D : va_G} {cA : Nat → ClassId} {a b v n n0 : Nat} {f : Nat → Int32} (hn : n ≤ 16) (hf : ∀ j, j < n → fits .byte (.int (f j)) = true) (hab : a ≠ b ∧ a ≠ v ∧ b ≠ v) : Met l yJ0_init_81219 (wsU yJ0_init_81219 cJ0_init_81219 2 none) (rmU 4 1 16) (va_Pc [.ref a, .ref b] (stB D cA a b v n n0 f)) (va_Qv (fun (u : Nat × (Nat → Int32)) => n0 ≤ u.1 ∧ ∀ j, j < n → u.2 j = f j) (fun u t => va_P D vc [STo a u.1, BYt cA u.1 n u.2] t.heap) (AS a b v n0)) 1 16 (AS a b v n0) := by
  refine tm_met (by decide +kernel) (Nat.le_of_ble_eq_true rfl) (fun p e s m args below meth c ls S hB hl hr hk hnm => ?_)
  have hx := S.1
  have hb := S.2.1
  replace hl : lv_has ls 2 [(0, .ref a), (1, .ref b)] := hl
  have hS : va_S (AS a b v n0) s.heap s.heap [] := va_S.rf
  refine lv_aload_n hx hb dJ0_init_81219_0 rfl (lv_at hl 0 rfl) ?_
  refine lv_aload_n hx hb dJ0_init_81219_1 rfl (lv_at hl 1 rfl) ?_
  refine lv_null hx hb dJ0_init_81219_2 ?_
  refine va_callv (tt_I S (fun U hU hW => ⟨by rw [hU]; exact hB.1, va_K.moved hW.alike hB.2.1, hB.2.2.1.at hS (fun _ h => h) hU hW, va_Nw.warmC hW hB.2.2.2.1, by rw [hU]; exact hB.2.2.2.2⟩) stB.bl (c_J0_init2 l hn hf hab) to_J0_init_db425 tl_J0_489 ⟨(Nat.le_of_ble_eq_true rfl), (Nat.le_of_ble_eq_true rfl)⟩ rfl hl.1 rfl (Nat.le_of_ble_eq_true rfl) dJ0_init_81219_3 ⟨(Nat.le_of_ble_eq_true rfl), (Nat.le_of_ble_eq_true rfl)⟩) hS (fun _ _ h => h) (fun _ h => h) (fun u t H1 locs ht _ hu hw hz hk9 hS => ?_)
  rw [ht] at hw
  exact W.vret hx hb hr (fun t ht _ => ⟨⟨u, rfl, hu, by rw [← ht] at hw; exact hw⟩, hS.F ht⟩) hS.2.2 dJ0_init_81219_6 hk
set_option maxRecDepth 100000 in
set_option maxHeartbeats 4000000 in
theorem c_J4_toString (l : Launch) {D : va_G} {cA : Nat → ClassId} {b v n n0 : Nat} {f : Nat → Int32} (hn : n ≤ 16) (hf : ∀ j, j < n → fits .byte (.int (f j)) = true) (hbv : b ≠ v) : Met l yJ4_toString_0e30d (wsU yJ4_toString_0e30d cJ4_toString_0e30d 1 (some (.object "java/lang/String"))) (rmU 5 2 20) (va_Pc [.ref b] (tsB D cA b v n n0 f)) (va_Qr (fun (u : Nat × (Nat → Int32)) => n0 ≤ u.1 ∧ ∀ j, j < n → u.2 j = f j) (fun u a t => n0 ≤ a ∧ va_P D vc [STo a u.1, BYt cA u.1 n u.2] t.heap) (fun q => q = b ∨ q = v ∨ n0 ≤ q)) 2 20 (fun q => q = b ∨ q = v ∨ n0 ≤ q) := by
  refine tm_met (by decide +kernel) (Nat.le_of_ble_eq_true rfl) (fun p e s m args below meth c ls S hB hl hr hk hnm => ?_)
  have hx := S.1
  have hb := S.2.1
  replace hl : lv_has ls 1 [(0, .ref b)] := hl
  obtain ⟨hP, hK, hX, hnc, hz0⟩ := hB
  have hS : va_S (fun q => q = b ∨ q = v ∨ n0 ≤ q) s.heap s.heap [] := va_S.rf
  refine W.newcK hx hb S.2.2.2.1 (S.2.2.2.2 _ (List.mem_cons_of_mem _ tk_J4_18)) (S.2.2.2.2 _ (List.mem_cons_of_mem _ tin_J0)) (S.2.2.2.2 _ (List.mem_cons_of_mem _ tii_J0)) rfl dJ4_toString_0e30d_0 (show 0 + 1 ≤ 2 by decide) (show 0 + 4 ≤ 20 by decide) (hK.1 7 _ rfl).2.1 rfl fun H kC hkC e1 z1 o1 => ?_
  have hat : va_at D vc (STn s.heap.size) H := ⟨(RJ0, TJ0, 4), rfl, (u_born tyJ0 S.2.2.2.2 (inC_J0 _) (hK.1 7 _ rfl) hkC e1 tyJ0_ok).to (by decide +kernel)⟩
  rw [hz0] at hat ⊢
  have hbl := (hP 0 _ rfl).lt
  have hvl := (hP 1 _ rfl).lt
  have hbl : b < s.heap.size := hbl
  have hvl : v < s.heap.size := hvl
  have hS : va_S (fun q => q = b ∨ q = v ∨ n0 ≤ q) s.heap H [] := ⟨by omega, fun q h1 _ => o1 q h1, fun _ h => by cases h⟩
  have hP : va_P D vc [STn n0, SBo b v n, SBa cA v f] H := fun i q hq => by
    match i, hq with
    | 0, hq => cases hq; exact hat
    | 1, hq => cases hq; exact (hP 0 _ rfl).kept (o1 _ hbl)
    | 2, hq => cases hq; exact (hP 1 _ rfl).kept (o1 _ hvl)
    | i + 3, hq => simp at hq
  refine lv_dup hx hb dJ4_toString_0e30d_3 rfl ?_
  refine lv_aload_n hx hb dJ4_toString_0e30d_4 rfl (lv_at hl 0 rfl) ?_
  refine va_callv (tt_I (As := [.ref b]) (rest := [.ref n0]) S (fun U hU hW => ⟨by rw [hU]; exact hP, va_K.moved hW.alike hK, hX.at hS (fun q h => by
      rcases h with h | h | h | h
      · exact Or.inr (Or.inr (Nat.le_of_eq h.symm))
      · exact Or.inl h
      · exact Or.inr (Or.inl h)
      · exact Or.inr (Or.inr (by have h7 : n0 + 1 ≤ q := h; omega))) hU hW, va_Nw.warmC hW hnc, by rw [hU, z1, hz0]⟩) stB.bl (c_J0_init1 (n0 := n0 + 1) l hn hf ⟨by omega, by omega, hbv⟩) to_J0_init_81219 tl_J4_137 ⟨(Nat.le_of_ble_eq_true rfl), (Nat.le_of_ble_eq_true rfl)⟩ rfl hl.1 rfl (Nat.le_of_ble_eq_true rfl) dJ4_toString_0e30d_5 ⟨(Nat.le_of_ble_eq_true rfl), (Nat.le_of_ble_eq_true rfl)⟩) hS (fun q _ h => by
      rcases h with h | h | h | h
      · exact Or.inr (Or.inr (Nat.le_of_eq h.symm))
      · exact Or.inl h
      · exact Or.inr (Or.inl h)
      · exact Or.inr (Or.inr (by have h7 : n0 + 1 ≤ q := h; omega))) (fun q h => by
      rcases h with h | h | h | h
      · exact Or.inr (Or.inr (Nat.le_of_eq h.symm))
      · exact Or.inl h
      · exact Or.inr (Or.inl h)
      · exact Or.inr (Or.inr (by have h7 : n0 + 1 ≤ q := h; omega))) (fun u t H1 locs ht _ hu hw hz hk9 hS => ?_)
  rw [ht] at hw
  exact W.aret hx hb hr (Or.inl ⟨_, rfl⟩) (Or.inr ⟨_, rfl⟩) (fun t ht _ => ⟨⟨u, n0, rfl, ⟨by have := hu.1; omega, hu.2⟩, Nat.le_refl _, by rw [← ht] at hw; exact hw⟩, hS.F ht⟩) hS.2.2 dJ4_toString_0e30d_8 hk
