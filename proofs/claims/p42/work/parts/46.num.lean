/-! A NUMBER APPENDED -/
def dgs (s : Nat) : List Nat := if s < 10 then [48 + s] else if s < 100 then [48 + s / 10, 48 + s % 10] else [48 + s / 100, 48 + s % 100 / 10, 48 + s % 10]
def DgA (A : Nat → Prop) (U : State) (H : Heap) : Prop := ∃ t1 t2 : Nat, va_Z "java/lang/Integer" "DigitOnes" "[B" (.ref t1) A U H ∧ va_T .byte t1 100 (fun j => .int (nI (48 + j % 10))) A U H ∧ va_Z "java/lang/Integer" "DigitTens" "[B" (.ref t2) A U H ∧ va_T .byte t2 100 (fun j => .int (nI (48 + j / 10))) A U H
theorem DgA.moved {A : Nat → Prop} {u U : State} {H : Heap} (hvm : u.vm.Alike U.vm) (h : DgA A u H) : DgA A U H := by
  obtain ⟨t1, t2, h1, h2, h3, h4⟩ := h
  exact ⟨t1, t2, va_Z.moved hvm h1, va_T.moved hvm h2, va_Z.moved hvm h3, va_T.moved hvm h4⟩
theorem DgA.kept {A : Nat → Prop} {U : State} {H H1 : Heap} (h : DgA A U H) (hq : ∀ a : Nat, a < H.size → ¬ A a → H1[a]? = H[a]?) : DgA A U H1 := by
  obtain ⟨t1, t2, h1, h2, h3, h4⟩ := h
  exact ⟨t1, t2, h1.kept hq, h2.kept hq, h3.kept hq, h4.kept hq⟩
theorem DgA.narrow {A B : Nat → Prop} {U : State} {H : Heap} (h : DgA A U H) (hAB : ∀ q, B q → A q) : DgA B U H := by
  obtain ⟨t1, t2, h1, h2, h3, h4⟩ := h
  exact ⟨t1, t2, h1.narrow hAB, h2.narrow hAB, h3.narrow hAB, h4.narrow hAB⟩
theorem DgA.at {A B : Nat → Prop} {s U : State} {H : Heap} {locs : List Loc} (h : DgA A s s.heap) (hS : va_S A s.heap H locs) (hAB : ∀ q, B q → A q) (hU : U.heap = H) (hW : s.WarmedH U.vm) : DgA B U U.heap := by
  subst hU
  exact ((h.kept hS.2.1).narrow hAB).moved hW.alike
theorem Pf.end {cs ds : List Nat} {f u : Nat → Int32} (h : Pf cs f) (h1 : ∀ j, j < cs.length → u j = f j) (h2 : ∀ i, i < ds.length → u (cs.length + i) = nI (ds.getD i 0)) : Pf (cs ++ ds) u := by
  intro j hj
  rw [List.length_append] at hj
  by_cases h3 : j < cs.length
  · rw [h1 j h3, h j h3, List.getD_eq_getElem?_getD, List.getD_eq_getElem?_getD, List.getElem?_append_left h3]
  · obtain ⟨i, rfl⟩ : ∃ i, j = cs.length + i := ⟨j - cs.length, by omega⟩
    rw [h2 i (by omega), List.getD_eq_getElem?_getD, List.getD_eq_getElem?_getD, List.getElem?_append_right (by omega), show cs.length + i - cs.length = i by omega]
theorem upd_at {f : Nat → Int32} {k : Nat} {x : Int32} : upd f k x k = x := by simp [upd]
abbrev sbN (D : va_G) (cA : Nat → ClassId) (v : Nat) (f : Nat → Int32) : State → Prop := fun U => va_P D vc [SBa cA v f] U.heap ∧ va_K D vc (tyl cA) U ∧ DgA (AV v) U U.heap
abbrev sbM (D : va_G) (cA : Nat → ClassId) (b v k : Nat) (f : Nat → Int32) : State → Prop := fun U => va_P D vc (SBw cA b v k f) U.heap ∧ va_K D vc (tyl cA) U ∧ SxA (AB b v) U U.heap ∧ DgA (AB b v) U U.heap
theorem sbM.bl {D : va_G} {cA : Nat → ClassId} {b v k : Nat} {f : Nat → Int32} (U : State) (g0 : JFrame) (mk : MethodId) (a' : Array Value) (h : sbM D cA b v k f U) : sbM D cA b v k f (U.calling g0 mk a') := ⟨h.1, va_K.moved (Vm.Alike.refl U.vm) h.2.1, h.2.2.1.moved (Vm.Alike.refl U.vm), h.2.2.2.moved (Vm.Alike.refl U.vm)⟩
theorem t10 : (-10 : Int32) = -nI 10 ∧ (-100 : Int32) = -nI 100 ∧ (-1000 : Int32) = -nI 1000 ∧ (-9 : Int32) = -nI 9 := by decide
theorem tf_J6_83 : Cond.fieldLink RJ6 83 "java/lang/Integer" "DigitOnes" "[B" ∈ ALLW := inA 1224 (by decide +kernel) (by decide +kernel)
theorem tf_J6_87 : Cond.fieldLink RJ6 87 "java/lang/Integer" "DigitTens" "[B" ∈ ALLW := inA 1226 (by decide +kernel) (by decide +kernel)
theorem to_J6_getChars_ba4f3 : okS yJ6_getChars_ba4f3 cJ6_getChars_ba4f3 7 (some .int) 3 := ⟨inA 1222 (by decide +kernel) (by decide +kernel), inA 52 (by decide +kernel) (by decide +kernel), inA 1223 (by decide +kernel) (by decide +kernel), by decide +kernel, by decide +kernel, by decide +kernel⟩
theorem tl_J5_248 : Cond.methodLink RJ5 248 yJ6_getChars_ba4f3 ∈ ALLW := inA 1221 (by decide +kernel) (by decide +kernel)
theorem to_J6_stringSize_0f7a4 : okS yJ6_stringSize_0f7a4 cJ6_stringSize_0f7a4 4 (some .int) 1 := ⟨inA 1219 (by decide +kernel) (by decide +kernel), inA 52 (by decide +kernel) (by decide +kernel), inA 1220 (by decide +kernel) (by decide +kernel), by decide +kernel, by decide +kernel, by decide +kernel⟩
theorem tl_J5_245 : Cond.methodLink RJ5 245 yJ6_stringSize_0f7a4 ∈ ALLW := inA 1218 (by decide +kernel) (by decide +kernel)
theorem ts_J5_isLatin1_aae02 : Cond.selects "java/lang/StringBuilder" yJ5_isLatin1_aae02 yJ5_isLatin1_aae02 ∈ ALLW := inA 1159 (by decide +kernel) (by decide +kernel)
theorem to_J5_isLatin1_aae02 : okB yJ5_isLatin1_aae02 cJ5_isLatin1_aae02 1 (some .boolean) 0 := ⟨inA 1157 (by decide +kernel) (by decide +kernel), inA 53 (by decide +kernel) (by decide +kernel), inA 1160 (by decide +kernel) (by decide +kernel), by decide +kernel, by decide +kernel, by decide +kernel⟩
theorem tl_J5_83 : Cond.methodLink RJ5 83 yJ5_isLatin1_aae02 ∈ ALLW := inA 1156 (by decide +kernel) (by decide +kernel)
theorem to_J5_append_c97b9 : okB yJ5_append_c97b9 cJ5_append_c97b9 4 (some (.object "java/lang/AbstractStringBuilder")) 1 := ⟨inA 1216 (by decide +kernel) (by decide +kernel), inA 53 (by decide +kernel) (by decide +kernel), inA 1217 (by decide +kernel) (by decide +kernel), by decide +kernel, by decide +kernel, by decide +kernel⟩
theorem tl_J4_53 : Cond.methodLink RJ4 53 yJ5_append_c97b9 ∈ ALLW := inA 1215 (by decide +kernel) (by decide +kernel)
theorem tm_appendI : Cond.sameMethod RJ5 RJ5 "append" "(I)Ljava/lang/AbstractStringBuilder;" ∈ ALLW := inA 1324 (by decide +kernel) (by decide +kernel)
set_option maxRecDepth 100000 in
set_option maxHeartbeats 4000000 in
theorem c_J6_size1 (l : Launch) {s : Nat} (h : s < 10) : CtT l yJ6_stringSize_0f7a4 cJ6_stringSize_0f7a4 4 (some .int) 0 [.int (nI s)] (fun _ => True) (nI 1) := by
  refine tm_met (by decide +kernel) (Nat.le_of_ble_eq_true rfl) (fun p e s₀ m args below meth c ls S hB hl hr hk hnm => ?_)
  have hx := S.1
  have hb := S.2.1
  replace hl : lv_has ls 4 [(0, .int (nI s))] := hl
  have hS : va_S NoA s₀.heap s₀.heap [] := va_S.rf
  have e0 : ¬ (-nI s ≤ ((-10) : Int32)) := by
    rw [t10.1, sb_nle (by omega) (by omega)]
    omega
  refine lv_iconst (v := 1) hx hb dJ6_stringSize_0f7a4_0 (by decide) ?_
  refine lv_istore_n (lv' := [(1, .int 1), (0, .int (nI s))]) hx hb dJ6_stringSize_0f7a4_1 rfl hl (by decide) rfl (fun ls hl => ?_)
  refine lv_iload_n hx hb dJ6_stringSize_0f7a4_2 rfl (lv_at hl 1 rfl) ?_
  refine lv_if_lt (tgt := 11) hx hb dJ6_stringSize_0f7a4_3 (by decide) (fun c9 => absurd c9 (nI_pos (by omega))) (fun _ => ?_)
  refine lv_iconst (v := 0) hx hb dJ6_stringSize_0f7a4_6 (by decide) ?_
  refine lv_istore_n (lv' := [(1, .int 0), (0, .int (nI s))]) hx hb dJ6_stringSize_0f7a4_7 rfl hl (by decide) rfl (fun ls hl => ?_)
  refine lv_iload_n hx hb dJ6_stringSize_0f7a4_8 rfl (lv_at hl 1 rfl) ?_
  refine lv_ineg hx hb dJ6_stringSize_0f7a4_9 ?_
  refine lv_istore_n (lv' := [(0, .int (-nI s)), (1, .int 0)]) hx hb dJ6_stringSize_0f7a4_10 rfl hl (by decide) rfl (fun ls hl => ?_)
  refine lv_bipush (v := (-10)) hx hb dJ6_stringSize_0f7a4_11 (by decide) ?_
  refine lv_istore_n (lv' := [(2, .int (-10)), (0, .int (-nI s)), (1, .int 0)]) hx hb dJ6_stringSize_0f7a4_13 rfl hl (by decide) rfl (fun ls hl => ?_)
  refine lv_iconst (v := 1) hx hb dJ6_stringSize_0f7a4_14 (by decide) ?_
  refine lv_istore_n (lv' := [(3, .int 1), (2, .int (-10)), (0, .int (-nI s)), (1, .int 0)]) hx hb dJ6_stringSize_0f7a4_15 rfl hl (by decide) rfl (fun ls hl => ?_)
  refine lv_iload_n hx hb dJ6_stringSize_0f7a4_16 rfl (lv_at hl 0 rfl) ?_
  refine lv_bipush (v := 10) hx hb dJ6_stringSize_0f7a4_17 (by decide) ?_
  refine lv_icmp_ge (tgt := 42) hx hb dJ6_stringSize_0f7a4_19 (by decide) (fun c9 => absurd c9 (by decide)) (fun _ => ?_)
  refine lv_iload_n hx hb dJ6_stringSize_0f7a4_22 rfl (lv_at hl 2 rfl) ?_
  refine lv_iload_n hx hb dJ6_stringSize_0f7a4_23 rfl (lv_at hl 1 rfl) ?_
  refine lv_icmp_le (tgt := 31) hx hb dJ6_stringSize_0f7a4_24 (by decide) (fun c9 => absurd c9 e0) (fun _ => ?_)
  refine lv_iload_n hx hb dJ6_stringSize_0f7a4_27 rfl (lv_at hl 0 rfl) ?_
  refine lv_iload_n hx hb dJ6_stringSize_0f7a4_28 rfl (lv_at hl 3 rfl) ?_
  refine lv_iadd hx hb dJ6_stringSize_0f7a4_29 ?_
  rw [show (1 : Int32) + 0 = nI 1 from by decide]
  exact te_i S hS hr hk rfl dJ6_stringSize_0f7a4_30
set_option maxRecDepth 100000 in
set_option maxHeartbeats 4000000 in
theorem c_J6_size2 (l : Launch) {s : Nat} (h0 : 10 ≤ s) (h : s < 100) : CtT l yJ6_stringSize_0f7a4 cJ6_stringSize_0f7a4 4 (some .int) 0 [.int (nI s)] (fun _ => True) (nI 2) := by
  refine tm_met (by decide +kernel) (Nat.le_of_ble_eq_true rfl) (fun p e s₀ m args below meth c ls S hB hl hr hk hnm => ?_)
  have hx := S.1
  have hb := S.2.1
  replace hl : lv_has ls 4 [(0, .int (nI s))] := hl
  have hS : va_S NoA s₀.heap s₀.heap [] := va_S.rf
  have e0 : (-nI s ≤ ((-10) : Int32)) := by
    rw [t10.1, sb_nle (by omega) (by omega)]
    omega
  have e1 : ¬ (-nI s ≤ ((-100) : Int32)) := by
    rw [t10.2.1, sb_nle (by omega) (by omega)]
    omega
  refine lv_iconst (v := 1) hx hb dJ6_stringSize_0f7a4_0 (by decide) ?_
  refine lv_istore_n (lv' := [(1, .int 1), (0, .int (nI s))]) hx hb dJ6_stringSize_0f7a4_1 rfl hl (by decide) rfl (fun ls hl => ?_)
  refine lv_iload_n hx hb dJ6_stringSize_0f7a4_2 rfl (lv_at hl 1 rfl) ?_
  refine lv_if_lt (tgt := 11) hx hb dJ6_stringSize_0f7a4_3 (by decide) (fun c9 => absurd c9 (nI_pos (by omega))) (fun _ => ?_)
  refine lv_iconst (v := 0) hx hb dJ6_stringSize_0f7a4_6 (by decide) ?_
  refine lv_istore_n (lv' := [(1, .int 0), (0, .int (nI s))]) hx hb dJ6_stringSize_0f7a4_7 rfl hl (by decide) rfl (fun ls hl => ?_)
  refine lv_iload_n hx hb dJ6_stringSize_0f7a4_8 rfl (lv_at hl 1 rfl) ?_
  refine lv_ineg hx hb dJ6_stringSize_0f7a4_9 ?_
  refine lv_istore_n (lv' := [(0, .int (-nI s)), (1, .int 0)]) hx hb dJ6_stringSize_0f7a4_10 rfl hl (by decide) rfl (fun ls hl => ?_)
  refine lv_bipush (v := (-10)) hx hb dJ6_stringSize_0f7a4_11 (by decide) ?_
  refine lv_istore_n (lv' := [(2, .int (-10)), (0, .int (-nI s)), (1, .int 0)]) hx hb dJ6_stringSize_0f7a4_13 rfl hl (by decide) rfl (fun ls hl => ?_)
  refine lv_iconst (v := 1) hx hb dJ6_stringSize_0f7a4_14 (by decide) ?_
  refine lv_istore_n (lv' := [(3, .int 1), (2, .int (-10)), (0, .int (-nI s)), (1, .int 0)]) hx hb dJ6_stringSize_0f7a4_15 rfl hl (by decide) rfl (fun ls hl => ?_)
  refine lv_iload_n hx hb dJ6_stringSize_0f7a4_16 rfl (lv_at hl 0 rfl) ?_
  refine lv_bipush (v := 10) hx hb dJ6_stringSize_0f7a4_17 (by decide) ?_
  refine lv_icmp_ge (tgt := 42) hx hb dJ6_stringSize_0f7a4_19 (by decide) (fun c9 => absurd c9 (by decide)) (fun _ => ?_)
  refine lv_iload_n hx hb dJ6_stringSize_0f7a4_22 rfl (lv_at hl 2 rfl) ?_
  refine lv_iload_n hx hb dJ6_stringSize_0f7a4_23 rfl (lv_at hl 1 rfl) ?_
  refine lv_icmp_le (tgt := 31) hx hb dJ6_stringSize_0f7a4_24 (by decide) (fun _ => ?_) (fun c9 => absurd e0 c9)
  refine lv_bipush (v := 10) hx hb dJ6_stringSize_0f7a4_31 (by decide) ?_
  refine lv_iload_n hx hb dJ6_stringSize_0f7a4_33 rfl (lv_at hl 1 rfl) ?_
  refine lv_imul hx hb dJ6_stringSize_0f7a4_34 ?_
  rw [show (10 : Int32) * (-10) = (-100) from by decide]
  refine lv_istore_n (lv' := [(2, .int (-100)), (3, .int 1), (0, .int (-nI s)), (1, .int 0)]) hx hb dJ6_stringSize_0f7a4_35 rfl hl (by decide) rfl (fun ls hl => ?_)
  refine lv_iinc (v := 2) (lv' := [(3, .int 2), (2, .int (-100)), (0, .int (-nI s)), (1, .int 0)]) hx hb dJ6_stringSize_0f7a4_36 hl (k := 1) rfl (by decide) (by decide) rfl (fun ls hl => ?_)
  refine lv_goto (tgt := 16) hx hb dJ6_stringSize_0f7a4_39 (by decide) ?_
  refine lv_iload_n hx hb dJ6_stringSize_0f7a4_16 rfl (lv_at hl 0 rfl) ?_
  refine lv_bipush (v := 10) hx hb dJ6_stringSize_0f7a4_17 (by decide) ?_
  refine lv_icmp_ge (tgt := 42) hx hb dJ6_stringSize_0f7a4_19 (by decide) (fun c9 => absurd c9 (by decide)) (fun _ => ?_)
  refine lv_iload_n hx hb dJ6_stringSize_0f7a4_22 rfl (lv_at hl 2 rfl) ?_
  refine lv_iload_n hx hb dJ6_stringSize_0f7a4_23 rfl (lv_at hl 1 rfl) ?_
  refine lv_icmp_le (tgt := 31) hx hb dJ6_stringSize_0f7a4_24 (by decide) (fun c9 => absurd c9 e1) (fun _ => ?_)
  refine lv_iload_n hx hb dJ6_stringSize_0f7a4_27 rfl (lv_at hl 0 rfl) ?_
  refine lv_iload_n hx hb dJ6_stringSize_0f7a4_28 rfl (lv_at hl 3 rfl) ?_
  refine lv_iadd hx hb dJ6_stringSize_0f7a4_29 ?_
  rw [show (2 : Int32) + 0 = nI 2 from by decide]
  exact te_i S hS hr hk rfl dJ6_stringSize_0f7a4_30
set_option maxRecDepth 100000 in
set_option maxHeartbeats 4000000 in
theorem c_J6_size3 (l : Launch) {s : Nat} (h0 : 100 ≤ s) (h : s < 1000) : CtT l yJ6_stringSize_0f7a4 cJ6_stringSize_0f7a4 4 (some .int) 0 [.int (nI s)] (fun _ => True) (nI 3) := by
  refine tm_met (by decide +kernel) (Nat.le_of_ble_eq_true rfl) (fun p e s₀ m args below meth c ls S hB hl hr hk hnm => ?_)
  have hx := S.1
  have hb := S.2.1
  replace hl : lv_has ls 4 [(0, .int (nI s))] := hl
  have hS : va_S NoA s₀.heap s₀.heap [] := va_S.rf
  have e0 : (-nI s ≤ ((-10) : Int32)) := by
    rw [t10.1, sb_nle (by omega) (by omega)]
    omega
  have e1 : (-nI s ≤ ((-100) : Int32)) := by
    rw [t10.2.1, sb_nle (by omega) (by omega)]
    omega
  have e2 : ¬ (-nI s ≤ ((-1000) : Int32)) := by
    rw [t10.2.2.1, sb_nle (by omega) (by omega)]
    omega
  refine lv_iconst (v := 1) hx hb dJ6_stringSize_0f7a4_0 (by decide) ?_
  refine lv_istore_n (lv' := [(1, .int 1), (0, .int (nI s))]) hx hb dJ6_stringSize_0f7a4_1 rfl hl (by decide) rfl (fun ls hl => ?_)
  refine lv_iload_n hx hb dJ6_stringSize_0f7a4_2 rfl (lv_at hl 1 rfl) ?_
  refine lv_if_lt (tgt := 11) hx hb dJ6_stringSize_0f7a4_3 (by decide) (fun c9 => absurd c9 (nI_pos (by omega))) (fun _ => ?_)
  refine lv_iconst (v := 0) hx hb dJ6_stringSize_0f7a4_6 (by decide) ?_
  refine lv_istore_n (lv' := [(1, .int 0), (0, .int (nI s))]) hx hb dJ6_stringSize_0f7a4_7 rfl hl (by decide) rfl (fun ls hl => ?_)
  refine lv_iload_n hx hb dJ6_stringSize_0f7a4_8 rfl (lv_at hl 1 rfl) ?_
  refine lv_ineg hx hb dJ6_stringSize_0f7a4_9 ?_
  refine lv_istore_n (lv' := [(0, .int (-nI s)), (1, .int 0)]) hx hb dJ6_stringSize_0f7a4_10 rfl hl (by decide) rfl (fun ls hl => ?_)
  refine lv_bipush (v := (-10)) hx hb dJ6_stringSize_0f7a4_11 (by decide) ?_
  refine lv_istore_n (lv' := [(2, .int (-10)), (0, .int (-nI s)), (1, .int 0)]) hx hb dJ6_stringSize_0f7a4_13 rfl hl (by decide) rfl (fun ls hl => ?_)
  refine lv_iconst (v := 1) hx hb dJ6_stringSize_0f7a4_14 (by decide) ?_
  refine lv_istore_n (lv' := [(3, .int 1), (2, .int (-10)), (0, .int (-nI s)), (1, .int 0)]) hx hb dJ6_stringSize_0f7a4_15 rfl hl (by decide) rfl (fun ls hl => ?_)
  refine lv_iload_n hx hb dJ6_stringSize_0f7a4_16 rfl (lv_at hl 0 rfl) ?_
  refine lv_bipush (v := 10) hx hb dJ6_stringSize_0f7a4_17 (by decide) ?_
  refine lv_icmp_ge (tgt := 42) hx hb dJ6_stringSize_0f7a4_19 (by decide) (fun c9 => absurd c9 (by decide)) (fun _ => ?_)
  refine lv_iload_n hx hb dJ6_stringSize_0f7a4_22 rfl (lv_at hl 2 rfl) ?_
  refine lv_iload_n hx hb dJ6_stringSize_0f7a4_23 rfl (lv_at hl 1 rfl) ?_
  refine lv_icmp_le (tgt := 31) hx hb dJ6_stringSize_0f7a4_24 (by decide) (fun _ => ?_) (fun c9 => absurd e0 c9)
  refine lv_bipush (v := 10) hx hb dJ6_stringSize_0f7a4_31 (by decide) ?_
  refine lv_iload_n hx hb dJ6_stringSize_0f7a4_33 rfl (lv_at hl 1 rfl) ?_
  refine lv_imul hx hb dJ6_stringSize_0f7a4_34 ?_
  rw [show (10 : Int32) * (-10) = (-100) from by decide]
  refine lv_istore_n (lv' := [(2, .int (-100)), (3, .int 1), (0, .int (-nI s)), (1, .int 0)]) hx hb dJ6_stringSize_0f7a4_35 rfl hl (by decide) rfl (fun ls hl => ?_)
  refine lv_iinc (v := 2) (lv' := [(3, .int 2), (2, .int (-100)), (0, .int (-nI s)), (1, .int 0)]) hx hb dJ6_stringSize_0f7a4_36 hl (k := 1) rfl (by decide) (by decide) rfl (fun ls hl => ?_)
  refine lv_goto (tgt := 16) hx hb dJ6_stringSize_0f7a4_39 (by decide) ?_
  refine lv_iload_n hx hb dJ6_stringSize_0f7a4_16 rfl (lv_at hl 0 rfl) ?_
  refine lv_bipush (v := 10) hx hb dJ6_stringSize_0f7a4_17 (by decide) ?_
  refine lv_icmp_ge (tgt := 42) hx hb dJ6_stringSize_0f7a4_19 (by decide) (fun c9 => absurd c9 (by decide)) (fun _ => ?_)
  refine lv_iload_n hx hb dJ6_stringSize_0f7a4_22 rfl (lv_at hl 2 rfl) ?_
  refine lv_iload_n hx hb dJ6_stringSize_0f7a4_23 rfl (lv_at hl 1 rfl) ?_
  refine lv_icmp_le (tgt := 31) hx hb dJ6_stringSize_0f7a4_24 (by decide) (fun _ => ?_) (fun c9 => absurd e1 c9)
  refine lv_bipush (v := 10) hx hb dJ6_stringSize_0f7a4_31 (by decide) ?_
  refine lv_iload_n hx hb dJ6_stringSize_0f7a4_33 rfl (lv_at hl 1 rfl) ?_
  refine lv_imul hx hb dJ6_stringSize_0f7a4_34 ?_
  rw [show (10 : Int32) * (-100) = (-1000) from by decide]
  refine lv_istore_n (lv' := [(2, .int (-1000)), (3, .int 2), (0, .int (-nI s)), (1, .int 0)]) hx hb dJ6_stringSize_0f7a4_35 rfl hl (by decide) rfl (fun ls hl => ?_)
  refine lv_iinc (v := 3) (lv' := [(3, .int 3), (2, .int (-1000)), (0, .int (-nI s)), (1, .int 0)]) hx hb dJ6_stringSize_0f7a4_36 hl (k := 1) rfl (by decide) (by decide) rfl (fun ls hl => ?_)
  refine lv_goto (tgt := 16) hx hb dJ6_stringSize_0f7a4_39 (by decide) ?_
  refine lv_iload_n hx hb dJ6_stringSize_0f7a4_16 rfl (lv_at hl 0 rfl) ?_
  refine lv_bipush (v := 10) hx hb dJ6_stringSize_0f7a4_17 (by decide) ?_
  refine lv_icmp_ge (tgt := 42) hx hb dJ6_stringSize_0f7a4_19 (by decide) (fun c9 => absurd c9 (by decide)) (fun _ => ?_)
  refine lv_iload_n hx hb dJ6_stringSize_0f7a4_22 rfl (lv_at hl 2 rfl) ?_
  refine lv_iload_n hx hb dJ6_stringSize_0f7a4_23 rfl (lv_at hl 1 rfl) ?_
  refine lv_icmp_le (tgt := 31) hx hb dJ6_stringSize_0f7a4_24 (by decide) (fun c9 => absurd c9 e2) (fun _ => ?_)
  refine lv_iload_n hx hb dJ6_stringSize_0f7a4_27 rfl (lv_at hl 0 rfl) ?_
  refine lv_iload_n hx hb dJ6_stringSize_0f7a4_28 rfl (lv_at hl 3 rfl) ?_
  refine lv_iadd hx hb dJ6_stringSize_0f7a4_29 ?_
  rw [show (3 : Int32) + 0 = nI 3 from by decide]
  exact te_i S hS hr hk rfl dJ6_stringSize_0f7a4_30
set_option maxRecDepth 100000 in
set_option maxHeartbeats 4000000 in
theorem c_J6_chars1 (l : Launch) {D : va_G} {cA : Nat → ClassId} {v s : Nat} {f : Nat → Int32} {cs : List Nat} (hcs : Pf cs f) (h16 : cs.length + 1 ≤ 16) (h : s < 10) : Met l yJ6_getChars_ba4f3 (wsU yJ6_getChars_ba4f3 cJ6_getChars_ba4f3 7 (some .int)) (rmU 0 0 0) (va_Pc [.int (nI s), .int (nI (cs.length + 1)), .ref v] (sbN D cA v f)) (va_Qi (fun (_ : Int32) (u : Nat → Int32) => Pf (cs ++ [48 + s]) u) (fun u t => va_P D vc [SBa cA v u] t.heap) (AV v)) 0 0 (AV v) := by
  refine tm_met (by decide +kernel) (Nat.le_of_ble_eq_true rfl) (fun p e s₀ m args below meth c ls S hB hl hr hk hnm => ?_)
  have hx := S.1
  have hb := S.2.1
  replace hl : lv_has ls 7 [(0, .int (nI s)), (1, .int (nI (cs.length + 1))), (2, .ref v)] := hl
  obtain ⟨hP, hK, t1, t2, hz1, ht1, hz2, ht2⟩ := hB
  have hS : va_S (AV v) s₀.heap s₀.heap [] := va_S.rf
  have e0 : (-100 : Int32) < -nI s := by
    rw [t10.2.1, sb_nlt (by omega) (by omega)]
    omega
  have e9 : ((-9 : Int32) ≤ -nI s) := by
    rw [t10.2.2.2, sb_nle (by omega) (by omega)]
    omega
  refine lv_iload_n hx hb dJ6_getChars_ba4f3_0 rfl (lv_at hl 1 rfl) ?_
  refine lv_istore (lv' := [(5, .int (nI (cs.length + 1))), (0, .int (nI s)), (1, .int (nI (cs.length + 1))), (2, .ref v)]) hx hb dJ6_getChars_ba4f3_1 hl (by decide) rfl (fun ls hl => ?_)
  refine lv_iload_n hx hb dJ6_getChars_ba4f3_3 rfl (lv_at hl 1 rfl) ?_
  refine lv_if_ge (tgt := 11) hx hb dJ6_getChars_ba4f3_4 (by decide) (fun _ => ?_) (fun c9 => absurd (nI_pos' (by omega)) c9)
  refine lv_iconst (v := 0) hx hb dJ6_getChars_ba4f3_11 (by decide) ?_
  refine lv_istore (lv' := [(6, .int 0), (5, .int (nI (cs.length + 1))), (0, .int (nI s)), (1, .int (nI (cs.length + 1))), (2, .ref v)]) hx hb dJ6_getChars_ba4f3_12 hl (by decide) rfl (fun ls hl => ?_)
  refine lv_iload hx hb dJ6_getChars_ba4f3_14 (lv_at hl 0 rfl) ?_
  refine lv_if_ne (tgt := 22) hx hb dJ6_getChars_ba4f3_16 (by decide) (fun c9 => absurd rfl c9) (fun _ => ?_)
  refine lv_iload_n hx hb dJ6_getChars_ba4f3_19 rfl (lv_at hl 2 rfl) ?_
  refine lv_ineg hx hb dJ6_getChars_ba4f3_20 ?_
  refine lv_istore_n (lv' := [(0, .int (-nI s)), (6, .int 0), (5, .int (nI (cs.length + 1))), (1, .int (nI (cs.length + 1))), (2, .ref v)]) hx hb dJ6_getChars_ba4f3_21 rfl hl (by decide) rfl (fun ls hl => ?_)
  refine lv_iload_n hx hb dJ6_getChars_ba4f3_22 rfl (lv_at hl 0 rfl) ?_
  refine lv_bipush (v := (-100)) hx hb dJ6_getChars_ba4f3_23 (by decide) ?_
  refine lv_icmp_gt (tgt := 72) hx hb dJ6_getChars_ba4f3_25 (by decide) (fun _ => ?_) (fun c9 => absurd e0 c9)
  refine lv_aload_n hx hb dJ6_getChars_ba4f3_72 rfl (lv_at hl 4 rfl) ?_
  refine lv_iinc (v := (nI (cs.length))) (lv' := [(5, .int (nI (cs.length))), (0, .int (-nI s)), (6, .int 0), (1, .int (nI (cs.length + 1))), (2, .ref v)]) hx hb dJ6_getChars_ba4f3_73 hl (k := 2) rfl (show nI (cs.length + 1) + (-1) = nI (cs.length) from sb_m1 (by omega)) (by decide) rfl (fun ls hl => ?_)
  refine lv_iload hx hb dJ6_getChars_ba4f3_76 (lv_at hl 0 rfl) ?_
  refine va_gets hx hb hz1 hS S.2.2.2.1 (S.2.2.2.2 _ (List.mem_cons_of_mem _ tf_J6_83)) (fun _ z => z) dJ6_getChars_ba4f3_78 ?_
  refine lv_iload_n hx hb dJ6_getChars_ba4f3_81 rfl (lv_at hl 1 rfl) ?_
  refine lv_ineg hx hb dJ6_getChars_ba4f3_82 ?_
  rw [show -(-nI (s)) = nI (s) from Int32.neg_neg]
  refine va_tb hx hb ht1 hS (vp_in_nI (by omega) (by omega)) (v := .int (nI (48 + (s) % 10))) (by rw [nI_clamp (by omega)]) dJ6_getChars_ba4f3_83 ?_
  refine va_bast hx hb hK hP sb_DV hS 0 3 rfl rfl (vp_in_nI (by omega) (by decide)) dJ6_getChars_ba4f3_84 (fun H locs hP _ hS => ?_)
  rw [nI_clamp (by omega), (txt_128 ((48 + (s) % 10)) (by omega)).2.2.2.2] at hP
  obtain ⟨f1, hf1⟩ : ∃ u, u = upd f (cs.length) (nI ((48 + (s) % 10))) := ⟨_, rfl⟩
  replace hP : va_P D vc [SBa cA v f1] H := by rw [hf1]; exact hP
  refine lv_iload_n hx hb dJ6_getChars_ba4f3_85 rfl (lv_at hl 1 rfl) ?_
  refine lv_bipush (v := (-9)) hx hb dJ6_getChars_ba4f3_86 (by decide) ?_
  refine lv_icmp_ge (tgt := 104) hx hb dJ6_getChars_ba4f3_88 (by decide) (fun _ => ?_) (fun c9 => absurd e9 c9)
  refine lv_iload hx hb dJ6_getChars_ba4f3_104 (lv_at hl 2 rfl) ?_
  refine lv_if_eq (tgt := 118) hx hb dJ6_getChars_ba4f3_106 (by decide) (fun _ => ?_) (fun c9 => absurd rfl c9)
  refine lv_iload hx hb dJ6_getChars_ba4f3_118 (lv_at hl 0 rfl) ?_
  have hfin : Pf (cs ++ [48 + s]) f1 := by
    refine hcs.end (fun j hj => ?_) (fun i hi => ?_)
    · rw [hf1, pk_un (by omega)]
    · have hi : i < 1 := hi
      rcases (show i = 0 by omega) with rfl
      · show f1 (cs.length + 0) = nI (48 + s)
        rw [Nat.add_zero, hf1, upd_at]
        rw [show s % 10 = s by omega]
  exact W.zret hx hb hr rfl (fun t ht _ => ⟨⟨_, f1, rfl, hfin, by rw [← ht] at hP; exact hP⟩, hS.F ht⟩) hS.2.2 dJ6_getChars_ba4f3_120 hk
set_option maxRecDepth 100000 in
set_option maxHeartbeats 4000000 in
theorem c_J6_chars2 (l : Launch) {D : va_G} {cA : Nat → ClassId} {v s : Nat} {f : Nat → Int32} {cs : List Nat} (hcs : Pf cs f) (h16 : cs.length + 2 ≤ 16) (h0 : 10 ≤ s) (h : s < 100) : Met l yJ6_getChars_ba4f3 (wsU yJ6_getChars_ba4f3 cJ6_getChars_ba4f3 7 (some .int)) (rmU 0 0 0) (va_Pc [.int (nI s), .int (nI (cs.length + 2)), .ref v] (sbN D cA v f)) (va_Qi (fun (_ : Int32) (u : Nat → Int32) => Pf (cs ++ [48 + s / 10, 48 + s % 10]) u) (fun u t => va_P D vc [SBa cA v u] t.heap) (AV v)) 0 0 (AV v) := by
  refine tm_met (by decide +kernel) (Nat.le_of_ble_eq_true rfl) (fun p e s₀ m args below meth c ls S hB hl hr hk hnm => ?_)
  have hx := S.1
  have hb := S.2.1
  replace hl : lv_has ls 7 [(0, .int (nI s)), (1, .int (nI (cs.length + 2))), (2, .ref v)] := hl
  obtain ⟨hP, hK, t1, t2, hz1, ht1, hz2, ht2⟩ := hB
  have hS : va_S (AV v) s₀.heap s₀.heap [] := va_S.rf
  have e0 : (-100 : Int32) < -nI s := by
    rw [t10.2.1, sb_nlt (by omega) (by omega)]
    omega
  have e9 : ¬ ((-9 : Int32) ≤ -nI s) := by
    rw [t10.2.2.2, sb_nle (by omega) (by omega)]
    omega
  refine lv_iload_n hx hb dJ6_getChars_ba4f3_0 rfl (lv_at hl 1 rfl) ?_
  refine lv_istore (lv' := [(5, .int (nI (cs.length + 2))), (0, .int (nI s)), (1, .int (nI (cs.length + 2))), (2, .ref v)]) hx hb dJ6_getChars_ba4f3_1 hl (by decide) rfl (fun ls hl => ?_)
  refine lv_iload_n hx hb dJ6_getChars_ba4f3_3 rfl (lv_at hl 1 rfl) ?_
  refine lv_if_ge (tgt := 11) hx hb dJ6_getChars_ba4f3_4 (by decide) (fun _ => ?_) (fun c9 => absurd (nI_pos' (by omega)) c9)
  refine lv_iconst (v := 0) hx hb dJ6_getChars_ba4f3_11 (by decide) ?_
  refine lv_istore (lv' := [(6, .int 0), (5, .int (nI (cs.length + 2))), (0, .int (nI s)), (1, .int (nI (cs.length + 2))), (2, .ref v)]) hx hb dJ6_getChars_ba4f3_12 hl (by decide) rfl (fun ls hl => ?_)
  refine lv_iload hx hb dJ6_getChars_ba4f3_14 (lv_at hl 0 rfl) ?_
  refine lv_if_ne (tgt := 22) hx hb dJ6_getChars_ba4f3_16 (by decide) (fun c9 => absurd rfl c9) (fun _ => ?_)
  refine lv_iload_n hx hb dJ6_getChars_ba4f3_19 rfl (lv_at hl 2 rfl) ?_
  refine lv_ineg hx hb dJ6_getChars_ba4f3_20 ?_
  refine lv_istore_n (lv' := [(0, .int (-nI s)), (6, .int 0), (5, .int (nI (cs.length + 2))), (1, .int (nI (cs.length + 2))), (2, .ref v)]) hx hb dJ6_getChars_ba4f3_21 rfl hl (by decide) rfl (fun ls hl => ?_)
  refine lv_iload_n hx hb dJ6_getChars_ba4f3_22 rfl (lv_at hl 0 rfl) ?_
  refine lv_bipush (v := (-100)) hx hb dJ6_getChars_ba4f3_23 (by decide) ?_
  refine lv_icmp_gt (tgt := 72) hx hb dJ6_getChars_ba4f3_25 (by decide) (fun _ => ?_) (fun c9 => absurd e0 c9)
  refine lv_aload_n hx hb dJ6_getChars_ba4f3_72 rfl (lv_at hl 4 rfl) ?_
  refine lv_iinc (v := (nI (cs.length + 1))) (lv' := [(5, .int (nI (cs.length + 1))), (0, .int (-nI s)), (6, .int 0), (1, .int (nI (cs.length + 2))), (2, .ref v)]) hx hb dJ6_getChars_ba4f3_73 hl (k := 2) rfl (show nI (cs.length + 2) + (-1) = nI (cs.length + 1) from sb_m1 (by omega)) (by decide) rfl (fun ls hl => ?_)
  refine lv_iload hx hb dJ6_getChars_ba4f3_76 (lv_at hl 0 rfl) ?_
  refine va_gets hx hb hz1 hS S.2.2.2.1 (S.2.2.2.2 _ (List.mem_cons_of_mem _ tf_J6_83)) (fun _ z => z) dJ6_getChars_ba4f3_78 ?_
  refine lv_iload_n hx hb dJ6_getChars_ba4f3_81 rfl (lv_at hl 1 rfl) ?_
  refine lv_ineg hx hb dJ6_getChars_ba4f3_82 ?_
  rw [show -(-nI (s)) = nI (s) from Int32.neg_neg]
  refine va_tb hx hb ht1 hS (vp_in_nI (by omega) (by omega)) (v := .int (nI (48 + (s) % 10))) (by rw [nI_clamp (by omega)]) dJ6_getChars_ba4f3_83 ?_
  refine va_bast hx hb hK hP sb_DV hS 0 3 rfl rfl (vp_in_nI (by omega) (by decide)) dJ6_getChars_ba4f3_84 (fun H locs hP _ hS => ?_)
  rw [nI_clamp (by omega), (txt_128 ((48 + (s) % 10)) (by omega)).2.2.2.2] at hP
  obtain ⟨f1, hf1⟩ : ∃ u, u = upd f (cs.length + 1) (nI ((48 + (s) % 10))) := ⟨_, rfl⟩
  replace hP : va_P D vc [SBa cA v f1] H := by rw [hf1]; exact hP
  refine lv_iload_n hx hb dJ6_getChars_ba4f3_85 rfl (lv_at hl 1 rfl) ?_
  refine lv_bipush (v := (-9)) hx hb dJ6_getChars_ba4f3_86 (by decide) ?_
  refine lv_icmp_ge (tgt := 104) hx hb dJ6_getChars_ba4f3_88 (by decide) (fun c9 => absurd c9 e9) (fun _ => ?_)
  refine lv_aload_n hx hb dJ6_getChars_ba4f3_91 rfl (lv_at hl 4 rfl) ?_
  refine lv_iinc (v := (nI (cs.length))) (lv' := [(5, .int (nI (cs.length))), (0, .int (-nI s)), (6, .int 0), (1, .int (nI (cs.length + 2))), (2, .ref v)]) hx hb dJ6_getChars_ba4f3_92 hl (k := 0) rfl (show nI (cs.length + 1) + (-1) = nI (cs.length) from sb_m1 (by omega)) (by decide) rfl (fun ls hl => ?_)
  refine lv_iload hx hb dJ6_getChars_ba4f3_95 (lv_at hl 0 rfl) ?_
  refine va_gets hx hb hz2 hS S.2.2.2.1 (S.2.2.2.2 _ (List.mem_cons_of_mem _ tf_J6_87)) (fun _ z => z) dJ6_getChars_ba4f3_97 ?_
  refine lv_iload_n hx hb dJ6_getChars_ba4f3_100 rfl (lv_at hl 1 rfl) ?_
  refine lv_ineg hx hb dJ6_getChars_ba4f3_101 ?_
  rw [show -(-nI s) = nI s from Int32.neg_neg]
  refine va_tb hx hb ht2 hS (vp_in_nI (by omega) (by omega)) (v := .int (nI (48 + (s) / 10))) (by rw [nI_clamp (by omega)]) dJ6_getChars_ba4f3_102 ?_
  refine va_bast hx hb hK hP sb_DV hS 0 3 rfl rfl (vp_in_nI (by omega) (by decide)) dJ6_getChars_ba4f3_103 (fun H locs hP _ hS => ?_)
  rw [nI_clamp (by omega), (txt_128 ((48 + (s) / 10)) (by omega)).2.2.2.2] at hP
  obtain ⟨f2, hf2⟩ : ∃ u, u = upd f1 (cs.length) (nI ((48 + (s) / 10))) := ⟨_, rfl⟩
  replace hP : va_P D vc [SBa cA v f2] H := by rw [hf2]; exact hP
  refine lv_iload hx hb dJ6_getChars_ba4f3_104 (lv_at hl 2 rfl) ?_
  refine lv_if_eq (tgt := 118) hx hb dJ6_getChars_ba4f3_106 (by decide) (fun _ => ?_) (fun c9 => absurd rfl c9)
  refine lv_iload hx hb dJ6_getChars_ba4f3_118 (lv_at hl 0 rfl) ?_
  have hfin : Pf (cs ++ [48 + s / 10, 48 + s % 10]) f2 := by
    refine hcs.end (fun j hj => ?_) (fun i hi => ?_)
    · rw [hf2, hf1, pk_un (by omega), pk_un (by omega)]
    · have hi : i < 2 := hi
      rcases (show i = 0 ∨ i = 1 by omega) with rfl | rfl
      · show f2 (cs.length + 0) = nI (48 + s / 10)
        rw [Nat.add_zero, hf2, upd_at]
      · show f2 (cs.length + 1) = nI (48 + s % 10)
        rw [hf2, pk_un (by omega), hf1, upd_at]
  exact W.zret hx hb hr rfl (fun t ht _ => ⟨⟨_, f2, rfl, hfin, by rw [← ht] at hP; exact hP⟩, hS.F ht⟩) hS.2.2 dJ6_getChars_ba4f3_120 hk
set_option maxRecDepth 100000 in
set_option maxHeartbeats 4000000 in
theorem c_J6_chars3 (l : Launch) {D : va_G} {cA : Nat → ClassId} {v s : Nat} {f : Nat → Int32} {cs : List Nat} (hcs : Pf cs f) (h16 : cs.length + 3 ≤ 16) (h0 : 100 ≤ s) (h : s < 1000) : Met l yJ6_getChars_ba4f3 (wsU yJ6_getChars_ba4f3 cJ6_getChars_ba4f3 7 (some .int)) (rmU 0 0 0) (va_Pc [.int (nI s), .int (nI (cs.length + 3)), .ref v] (sbN D cA v f)) (va_Qi (fun (_ : Int32) (u : Nat → Int32) => Pf (cs ++ [48 + s / 100, 48 + s % 100 / 10, 48 + s % 10]) u) (fun u t => va_P D vc [SBa cA v u] t.heap) (AV v)) 0 0 (AV v) := by
  refine tm_met (by decide +kernel) (Nat.le_of_ble_eq_true rfl) (fun p e s₀ m args below meth c ls S hB hl hr hk hnm => ?_)
  have hx := S.1
  have hb := S.2.1
  replace hl : lv_has ls 7 [(0, .int (nI s)), (1, .int (nI (cs.length + 3))), (2, .ref v)] := hl
  obtain ⟨hP, hK, t1, t2, hz1, ht1, hz2, ht2⟩ := hB
  have hS : va_S (AV v) s₀.heap s₀.heap [] := va_S.rf
  have e0 : ¬ ((-100 : Int32) < -nI s) := by
    rw [t10.2.1, sb_nlt (by omega) (by omega)]
    omega
  have e1 : (-100 : Int32) < -nI (s / 100) := by
    rw [t10.2.1, sb_nlt (by omega) (by omega)]
    omega
  have e9 : (-9 : Int32) ≤ -nI (s / 100) := by
    rw [t10.2.2.2, sb_nle (by omega) (by omega)]
    omega
  refine lv_iload_n hx hb dJ6_getChars_ba4f3_0 rfl (lv_at hl 1 rfl) ?_
  refine lv_istore (lv' := [(5, .int (nI (cs.length + 3))), (0, .int (nI s)), (1, .int (nI (cs.length + 3))), (2, .ref v)]) hx hb dJ6_getChars_ba4f3_1 hl (by decide) rfl (fun ls hl => ?_)
  refine lv_iload_n hx hb dJ6_getChars_ba4f3_3 rfl (lv_at hl 1 rfl) ?_
  refine lv_if_ge (tgt := 11) hx hb dJ6_getChars_ba4f3_4 (by decide) (fun _ => ?_) (fun c9 => absurd (nI_pos' (by omega)) c9)
  refine lv_iconst (v := 0) hx hb dJ6_getChars_ba4f3_11 (by decide) ?_
  refine lv_istore (lv' := [(6, .int 0), (5, .int (nI (cs.length + 3))), (0, .int (nI s)), (1, .int (nI (cs.length + 3))), (2, .ref v)]) hx hb dJ6_getChars_ba4f3_12 hl (by decide) rfl (fun ls hl => ?_)
  refine lv_iload hx hb dJ6_getChars_ba4f3_14 (lv_at hl 0 rfl) ?_
  refine lv_if_ne (tgt := 22) hx hb dJ6_getChars_ba4f3_16 (by decide) (fun c9 => absurd rfl c9) (fun _ => ?_)
  refine lv_iload_n hx hb dJ6_getChars_ba4f3_19 rfl (lv_at hl 2 rfl) ?_
  refine lv_ineg hx hb dJ6_getChars_ba4f3_20 ?_
  refine lv_istore_n (lv' := [(0, .int (-nI s)), (6, .int 0), (5, .int (nI (cs.length + 3))), (1, .int (nI (cs.length + 3))), (2, .ref v)]) hx hb dJ6_getChars_ba4f3_21 rfl hl (by decide) rfl (fun ls hl => ?_)
  refine lv_iload_n hx hb dJ6_getChars_ba4f3_22 rfl (lv_at hl 0 rfl) ?_
  refine lv_bipush (v := (-100)) hx hb dJ6_getChars_ba4f3_23 (by decide) ?_
  refine lv_icmp_gt (tgt := 72) hx hb dJ6_getChars_ba4f3_25 (by decide) (fun c9 => absurd c9 e0) (fun _ => ?_)
  refine lv_iload_n hx hb dJ6_getChars_ba4f3_28 rfl (lv_at hl 0 rfl) ?_
  refine lv_bipush (v := 100) hx hb dJ6_getChars_ba4f3_29 (by decide) ?_
  refine lv_idiv hx hb dJ6_getChars_ba4f3_31 (by decide) ?_
  rw [sb_ndiv (by omega)]
  refine lv_istore_n (lv' := [(3, .int (-nI (s / 100))), (0, .int (-nI s)), (6, .int 0), (5, .int (nI (cs.length + 3))), (1, .int (nI (cs.length + 3))), (2, .ref v)]) hx hb dJ6_getChars_ba4f3_32 rfl hl (by decide) rfl (fun ls hl => ?_)
  refine lv_iload_n hx hb dJ6_getChars_ba4f3_33 rfl (lv_at hl 0 rfl) ?_
  refine lv_bipush (v := 100) hx hb dJ6_getChars_ba4f3_34 (by decide) ?_
  refine lv_imul hx hb dJ6_getChars_ba4f3_36 ?_
  refine lv_iload_n hx hb dJ6_getChars_ba4f3_37 rfl (lv_at hl 1 rfl) ?_
  refine lv_isub hx hb dJ6_getChars_ba4f3_38 ?_
  rw [sb_nrem (by omega)]
  refine lv_istore (lv' := [(4, .int (nI (s % 100))), (3, .int (-nI (s / 100))), (0, .int (-nI s)), (6, .int 0), (5, .int (nI (cs.length + 3))), (1, .int (nI (cs.length + 3))), (2, .ref v)]) hx hb dJ6_getChars_ba4f3_39 hl (by decide) rfl (fun ls hl => ?_)
  refine lv_iload_n hx hb dJ6_getChars_ba4f3_41 rfl (lv_at hl 1 rfl) ?_
  refine lv_istore_n (lv' := [(0, .int (-nI (s / 100))), (4, .int (nI (s % 100))), (3, .int (-nI (s / 100))), (6, .int 0), (5, .int (nI (cs.length + 3))), (1, .int (nI (cs.length + 3))), (2, .ref v)]) hx hb dJ6_getChars_ba4f3_42 rfl hl (by decide) rfl (fun ls hl => ?_)
  refine lv_aload_n hx hb dJ6_getChars_ba4f3_43 rfl (lv_at hl 6 rfl) ?_
  refine lv_iinc (v := (nI (cs.length + 2))) (lv' := [(5, .int (nI (cs.length + 2))), (0, .int (-nI (s / 100))), (4, .int (nI (s % 100))), (3, .int (-nI (s / 100))), (6, .int 0), (1, .int (nI (cs.length + 3))), (2, .ref v)]) hx hb dJ6_getChars_ba4f3_44 hl (k := 4) rfl (show nI (cs.length + 3) + (-1) = nI (cs.length + 2) from sb_m1 (by omega)) (by decide) rfl (fun ls hl => ?_)
  refine lv_iload hx hb dJ6_getChars_ba4f3_47 (lv_at hl 0 rfl) ?_
  refine va_gets hx hb hz1 hS S.2.2.2.1 (S.2.2.2.2 _ (List.mem_cons_of_mem _ tf_J6_83)) (fun _ z => z) dJ6_getChars_ba4f3_49 ?_
  refine lv_iload hx hb dJ6_getChars_ba4f3_52 (lv_at hl 2 rfl) ?_
  refine va_tb hx hb ht1 hS (vp_in_nI (by omega) (by omega)) (v := .int (nI (48 + (s % 100) % 10))) (by rw [nI_clamp (by omega)]) dJ6_getChars_ba4f3_54 ?_
  refine va_bast hx hb hK hP sb_DV hS 0 3 rfl rfl (vp_in_nI (by omega) (by decide)) dJ6_getChars_ba4f3_55 (fun H locs hP _ hS => ?_)
  rw [nI_clamp (by omega), (txt_128 ((48 + (s % 100) % 10)) (by omega)).2.2.2.2] at hP
  obtain ⟨f1, hf1⟩ : ∃ u, u = upd f (cs.length + 2) (nI ((48 + (s % 100) % 10))) := ⟨_, rfl⟩
  replace hP : va_P D vc [SBa cA v f1] H := by rw [hf1]; exact hP
  refine lv_aload_n hx hb dJ6_getChars_ba4f3_56 rfl (lv_at hl 6 rfl) ?_
  refine lv_iinc (v := (nI (cs.length + 1))) (lv' := [(5, .int (nI (cs.length + 1))), (0, .int (-nI (s / 100))), (4, .int (nI (s % 100))), (3, .int (-nI (s / 100))), (6, .int 0), (1, .int (nI (cs.length + 3))), (2, .ref v)]) hx hb dJ6_getChars_ba4f3_57 hl (k := 0) rfl (show nI (cs.length + 2) + (-1) = nI (cs.length + 1) from sb_m1 (by omega)) (by decide) rfl (fun ls hl => ?_)
  refine lv_iload hx hb dJ6_getChars_ba4f3_60 (lv_at hl 0 rfl) ?_
  refine va_gets hx hb hz2 hS S.2.2.2.1 (S.2.2.2.2 _ (List.mem_cons_of_mem _ tf_J6_87)) (fun _ z => z) dJ6_getChars_ba4f3_62 ?_
  refine lv_iload hx hb dJ6_getChars_ba4f3_65 (lv_at hl 2 rfl) ?_
  refine va_tb hx hb ht2 hS (vp_in_nI (by omega) (by omega)) (v := .int (nI (48 + (s % 100) / 10))) (by rw [nI_clamp (by omega)]) dJ6_getChars_ba4f3_67 ?_
  refine va_bast hx hb hK hP sb_DV hS 0 3 rfl rfl (vp_in_nI (by omega) (by decide)) dJ6_getChars_ba4f3_68 (fun H locs hP _ hS => ?_)
  rw [nI_clamp (by omega), (txt_128 ((48 + (s % 100) / 10)) (by omega)).2.2.2.2] at hP
  obtain ⟨f2, hf2⟩ : ∃ u, u = upd f1 (cs.length + 1) (nI ((48 + (s % 100) / 10))) := ⟨_, rfl⟩
  replace hP : va_P D vc [SBa cA v f2] H := by rw [hf2]; exact hP
  refine lv_goto (tgt := 22) hx hb dJ6_getChars_ba4f3_69 (by decide) ?_
  refine lv_iload_n hx hb dJ6_getChars_ba4f3_22 rfl (lv_at hl 1 rfl) ?_
  refine lv_bipush (v := (-100)) hx hb dJ6_getChars_ba4f3_23 (by decide) ?_
  refine lv_icmp_gt (tgt := 72) hx hb dJ6_getChars_ba4f3_25 (by decide) (fun _ => ?_) (fun c9 => absurd e1 c9)
  refine lv_aload_n hx hb dJ6_getChars_ba4f3_72 rfl (lv_at hl 6 rfl) ?_
  refine lv_iinc (v := (nI (cs.length))) (lv' := [(5, .int (nI (cs.length))), (0, .int (-nI (s / 100))), (4, .int (nI (s % 100))), (3, .int (-nI (s / 100))), (6, .int 0), (1, .int (nI (cs.length + 3))), (2, .ref v)]) hx hb dJ6_getChars_ba4f3_73 hl (k := 0) rfl (show nI (cs.length + 1) + (-1) = nI (cs.length) from sb_m1 (by omega)) (by decide) rfl (fun ls hl => ?_)
  refine lv_iload hx hb dJ6_getChars_ba4f3_76 (lv_at hl 0 rfl) ?_
  refine va_gets hx hb hz1 hS S.2.2.2.1 (S.2.2.2.2 _ (List.mem_cons_of_mem _ tf_J6_83)) (fun _ z => z) dJ6_getChars_ba4f3_78 ?_
  refine lv_iload_n hx hb dJ6_getChars_ba4f3_81 rfl (lv_at hl 1 rfl) ?_
  refine lv_ineg hx hb dJ6_getChars_ba4f3_82 ?_
  rw [show -(-nI (s / 100)) = nI (s / 100) from Int32.neg_neg]
  refine va_tb hx hb ht1 hS (vp_in_nI (by omega) (by omega)) (v := .int (nI (48 + (s / 100) % 10))) (by rw [nI_clamp (by omega)]) dJ6_getChars_ba4f3_83 ?_
  refine va_bast hx hb hK hP sb_DV hS 0 3 rfl rfl (vp_in_nI (by omega) (by decide)) dJ6_getChars_ba4f3_84 (fun H locs hP _ hS => ?_)
  rw [nI_clamp (by omega), (txt_128 ((48 + (s / 100) % 10)) (by omega)).2.2.2.2] at hP
  obtain ⟨f3, hf3⟩ : ∃ u, u = upd f2 (cs.length) (nI ((48 + (s / 100) % 10))) := ⟨_, rfl⟩
  replace hP : va_P D vc [SBa cA v f3] H := by rw [hf3]; exact hP
  refine lv_iload_n hx hb dJ6_getChars_ba4f3_85 rfl (lv_at hl 1 rfl) ?_
  refine lv_bipush (v := (-9)) hx hb dJ6_getChars_ba4f3_86 (by decide) ?_
  refine lv_icmp_ge (tgt := 104) hx hb dJ6_getChars_ba4f3_88 (by decide) (fun _ => ?_) (fun c9 => absurd e9 c9)
  refine lv_iload hx hb dJ6_getChars_ba4f3_104 (lv_at hl 4 rfl) ?_
  refine lv_if_eq (tgt := 118) hx hb dJ6_getChars_ba4f3_106 (by decide) (fun _ => ?_) (fun c9 => absurd rfl c9)
  refine lv_iload hx hb dJ6_getChars_ba4f3_118 (lv_at hl 0 rfl) ?_
  have hfin : Pf (cs ++ [48 + s / 100, 48 + s % 100 / 10, 48 + s % 10]) f3 := by
    refine hcs.end (fun j hj => ?_) (fun i hi => ?_)
    · rw [hf3, hf2, hf1, pk_un (by omega), pk_un (by omega), pk_un (by omega)]
    · have hi : i < 3 := hi
      rcases (show i = 0 ∨ i = 1 ∨ i = 2 by omega) with rfl | rfl | rfl
      · show f3 (cs.length + 0) = nI (48 + s / 100)
        rw [Nat.add_zero, hf3, upd_at]
        rw [show s / 100 % 10 = s / 100 by omega]
      · show f3 (cs.length + 1) = nI (48 + s % 100 / 10)
        rw [hf3, pk_un (by omega), hf2, upd_at]
      · show f3 (cs.length + 2) = nI (48 + s % 10)
        rw [hf3, pk_un (by omega), hf2, pk_un (by omega), hf1, upd_at]
        rw [show s % 100 % 10 = s % 10 by omega]
  exact W.zret hx hb hr rfl (fun t ht _ => ⟨⟨_, f3, rfl, hfin, by rw [← ht] at hP; exact hP⟩, hS.F ht⟩) hS.2.2 dJ6_getChars_ba4f3_120 hk
theorem dgs_1 {s : Nat} (h : s < 10) : dgs s = [48 + s] := if_pos h
theorem dgs_2 {s : Nat} (h0 : 10 ≤ s) (h : s < 100) : dgs s = [48 + s / 10, 48 + s % 10] := by rw [dgs, if_neg (by omega), if_pos h]
theorem dgs_3 {s : Nat} (h0 : 100 ≤ s) : dgs s = [48 + s / 100, 48 + s % 100 / 10, 48 + s % 10] := by rw [dgs, if_neg (by omega), if_neg (by omega)]
theorem dgs_len (s : Nat) : (dgs s).length ≤ 3 := by
  unfold dgs
  split
  · exact (show 1 ≤ 3 by decide)
  · split
    · exact (show 2 ≤ 3 by decide)
    · exact (show 3 ≤ 3 by decide)
theorem c_J6_size (l : Launch) {s : Nat} (h : s < 1000) : CtT l yJ6_stringSize_0f7a4 cJ6_stringSize_0f7a4 4 (some .int) 0 [.int (nI s)] (fun _ => True) (nI (dgs s).length) := by
  by_cases h1 : s < 10
  · rw [dgs_1 h1]; exact c_J6_size1 l h1
  · by_cases h2 : s < 100
    · rw [dgs_2 (by omega) h2]; exact c_J6_size2 l (by omega) h2
    · rw [dgs_3 (by omega)]; exact c_J6_size3 l (by omega) h
theorem c_J6_chars (l : Launch) {D : va_G} {cA : Nat → ClassId} {v s : Nat} {f : Nat → Int32} {cs : List Nat} (hcs : Pf cs f) (h16 : cs.length + (dgs s).length ≤ 16) (h : s < 1000) : Met l yJ6_getChars_ba4f3 (wsU yJ6_getChars_ba4f3 cJ6_getChars_ba4f3 7 (some .int)) (rmU 0 0 0) (va_Pc [.int (nI s), .int (nI (cs.length + (dgs s).length)), .ref v] (sbN D cA v f)) (va_Qi (fun (_ : Int32) (u : Nat → Int32) => Pf (cs ++ dgs s) u) (fun u t => va_P D vc [SBa cA v u] t.heap) (AV v)) 0 0 (AV v) := by
  by_cases h1 : s < 10
  · rw [dgs_1 h1] at h16 ⊢; exact c_J6_chars1 l hcs h16 h1
  · by_cases h2 : s < 100
    · rw [dgs_2 (by omega) h2] at h16 ⊢; exact c_J6_chars2 l hcs h16 (by omega) h2
    · rw [dgs_3 (by omega)] at h16 ⊢; exact c_J6_chars3 l hcs h16 (by omega) h
set_option maxRecDepth 100000 in
set_option maxHeartbeats 4000000 in
theorem c_J5_appendI (l : Launch) {D : va_G} {cA : Nat → ClassId} {b v s : Nat} {f : Nat → Int32} {cs : List Nat} (hcs : Pf cs f) (h16 : cs.length + (dgs s).length ≤ 16) (hs : s < 1000) (hbv : b ≠ v) : Met l yJ5_append_c97b9 (wsU yJ5_append_c97b9 cJ5_append_c97b9 4 (some (.object "java/lang/AbstractStringBuilder"))) (rmU 1 0 0) (va_Pc [.ref b, .int (nI s)] (sbM D cA b v cs.length f)) (va_Qr (fun (u : Nat → Int32) => Pf (cs ++ dgs s) u) (fun u a' t => a' = b ∧ va_P D vc (SBw cA b v (cs.length + (dgs s).length) u) t.heap) (AB b v)) 0 0 (AB b v) := by
  refine tm_met (by decide +kernel) (Nat.le_of_ble_eq_true rfl) (fun p e s₀ m args below meth c ls S hB hl hr hk hnm => ?_)
  have hx := S.1
  have hb := S.2.1
  replace hl : lv_has ls 4 [(0, .ref b), (1, .int (nI s))] := hl
  obtain ⟨hP, hK, hX, hG⟩ := hB
  have hS : va_S (AB b v) s₀.heap s₀.heap [] := va_S.rf
  refine lv_aload_n hx hb dJ5_append_c97b9_0 rfl (lv_at hl 0 rfl) ?_
  refine va_get hx hb S.2.2.2.2 (inC_J4 _) S.2.2.2.1 hK hP 0 rfl rfl 3 (by decide) (S.2.2.2.2 _ (List.mem_cons_of_mem _ tf_J5_79)) (fun _ z => z) rfl dJ5_append_c97b9_1 ?_
  refine lv_istore_n (lv' := [(2, .int (nI cs.length)), (0, .ref b), (1, .int (nI s))]) hx hb dJ5_append_c97b9_4 rfl hl (by decide) rfl (fun ls hl => ?_)
  refine lv_iload_n hx hb dJ5_append_c97b9_5 rfl (lv_at hl 0 rfl) ?_
  refine lv_iload_n hx hb dJ5_append_c97b9_6 rfl (lv_at hl 2 rfl) ?_
  refine tt_i hS (tt_S S (fun _ _ _ => trivial) (fun _ _ _ _ h => h) (c_J6_size l hs) to_J6_stringSize_0f7a4 tl_J5_245 ⟨(Nat.le_of_ble_eq_true rfl), (Nat.le_of_ble_eq_true rfl)⟩ rfl hl.1 rfl (Nat.le_of_ble_eq_true rfl) dJ5_append_c97b9_7 ⟨(Nat.le_of_ble_eq_true rfl), (Nat.le_of_ble_eq_true rfl)⟩) (fun H locs ho hz hk9 hS => ?_)
  have hP := sb_kept hP hk9
  refine lv_iadd hx hb dJ5_append_c97b9_10 ?_
  rw [show nI cs.length + nI (dgs s).length = nI (cs.length + (dgs s).length) from nI_add _ _]
  refine lv_istore_n (lv' := [(3, .int (nI (cs.length + (dgs s).length))), (2, .int (nI cs.length)), (0, .ref b), (1, .int (nI s))]) hx hb dJ5_append_c97b9_11 rfl hl (by decide) rfl (fun ls hl => ?_)
  refine lv_aload_n hx hb dJ5_append_c97b9_12 rfl (lv_at hl 2 rfl) ?_
  refine lv_iload_n hx hb dJ5_append_c97b9_13 rfl (lv_at hl 0 rfl) ?_
  refine tt_v hS (tt_V S (C := "java/lang/StringBuilder") (sb_recv hK hP) (sbB.at hP hK hX hS (fun _ h => h.elim)) (sbB.bl) (c_J5_ensure l h16) to_J5_ensureCapacityInternal_d00df (S.2.2.2.2 _ (List.mem_cons_of_mem _ ts_J5_ensureCapacityInternal_d00df)) tl_J5_100 ⟨(Nat.le_of_ble_eq_true rfl), (Nat.le_of_ble_eq_true rfl)⟩ rfl hl.1 rfl (Nat.le_of_ble_eq_true rfl) dJ5_append_c97b9_14 ⟨(Nat.le_of_ble_eq_true rfl), (Nat.le_of_ble_eq_true rfl)⟩) (fun H locs hz hk9 hS => ?_)
  have hP := sb_kept hP hk9
  refine lv_aload_n hx hb dJ5_append_c97b9_17 rfl (lv_at hl 2 rfl) ?_
  refine tt_i hS (tt_V S (C := "java/lang/StringBuilder") (sb_recv hK hP) (sbB.at hP hK hX hS (fun _ h => h.elim)) (sbB.bl) (c_J5_isLatin1 l) to_J5_isLatin1_aae02 (S.2.2.2.2 _ (List.mem_cons_of_mem _ ts_J5_isLatin1_aae02)) tl_J5_83 ⟨(Nat.le_of_ble_eq_true rfl), (Nat.le_of_ble_eq_true rfl)⟩ rfl hl.1 rfl (Nat.le_of_ble_eq_true rfl) dJ5_append_c97b9_18 ⟨(Nat.le_of_ble_eq_true rfl), (Nat.le_of_ble_eq_true rfl)⟩) (fun H locs ho hz hk9 hS => ?_)
  have hP := sb_kept hP hk9
  refine lv_if_eq (tgt := 37) hx hb dJ5_append_c97b9_21 (by decide) (fun c9 => absurd c9 (by decide)) (fun _ => ?_)
  refine lv_iload_n hx hb dJ5_append_c97b9_24 rfl (lv_at hl 3 rfl) ?_
  refine lv_iload_n hx hb dJ5_append_c97b9_25 rfl (lv_at hl 0 rfl) ?_
  refine lv_aload_n hx hb dJ5_append_c97b9_26 rfl (lv_at hl 2 rfl) ?_
  refine va_get hx hb S.2.2.2.2 (inC_J4 _) S.2.2.2.1 hK hP 0 rfl rfl 0 (by decide) (S.2.2.2.2 _ (List.mem_cons_of_mem _ tf_J5_15)) (fun _ z => z) rfl dJ5_append_c97b9_27 ?_
  refine va_calli (tt_S S (fun U hU hW => ⟨by rw [hU]; exact hP.sub [1] rfl, va_K.moved hW.alike hK, hG.at hS (fun _ h => Or.inr h) hU hW⟩) (fun U _ _ _ h => ⟨h.1, va_K.moved (Vm.Alike.refl U.vm) h.2.1, h.2.2.moved (Vm.Alike.refl U.vm)⟩) (c_J6_chars l hcs h16 hs) to_J6_getChars_ba4f3 tl_J5_248 ⟨(Nat.le_of_ble_eq_true rfl), (Nat.le_of_ble_eq_true rfl)⟩ rfl hl.1 rfl (Nat.le_of_ble_eq_true rfl) dJ5_append_c97b9_30 ⟨(Nat.le_of_ble_eq_true rfl), (Nat.le_of_ble_eq_true rfl)⟩) hS (fun _ _ h => Or.inr h) (fun _ h => Or.inr h) (fun rr u t H1 locs ht _ hu hw hz hk9 hS => ?_)
  rw [ht] at hw
  replace hP := sb_upd hP hbv hk9 hw
  refine lv_pop hx hb dJ5_append_c97b9_33 rfl ?_
  refine lv_goto (tgt := 48) hx hb dJ5_append_c97b9_34 (by decide) ?_
  refine lv_aload_n hx hb dJ5_append_c97b9_48 rfl (lv_at hl 2 rfl) ?_
  refine lv_iload_n hx hb dJ5_append_c97b9_49 rfl (lv_at hl 0 rfl) ?_
  refine va_put hx hb S.2.2.2.2 (inC_J4 _) tyJ4 tyJ4_ok nmJ4 S.2.2.2.1 hK hP (sb_D hbv) hS 0 rfl rfl 3 (by decide) (S.2.2.2.2 _ (List.mem_cons_of_mem _ tf_J5_79)) (fun _ z => z) rfl rfl rfl rfl (show 3 < 4 by decide) dJ5_append_c97b9_50 (fun H locs hP _ hS => ?_)
  replace hP : va_P D vc (SBw cA b v (cs.length + (dgs s).length) u) H := hP
  refine lv_aload_n hx hb dJ5_append_c97b9_53 rfl (lv_at hl 2 rfl) ?_
  exact W.aret hx hb hr (Or.inl ⟨_, rfl⟩) (Or.inr ⟨_, rfl⟩) (fun t ht _ => ⟨⟨u, b, rfl, hu, rfl, by rw [← ht] at hP; exact hP⟩, hS.F ht⟩) hS.2.2 dJ5_append_c97b9_54 hk
set_option maxRecDepth 100000 in
set_option maxHeartbeats 4000000 in
theorem c_J4_appendI (l : Launch) {D : va_G} {cA : Nat → ClassId} {b v s : Nat} {f : Nat → Int32} {cs : List Nat} (hcs : Pf cs f) (h16 : cs.length + (dgs s).length ≤ 16) (hs : s < 1000) (hbv : b ≠ v) : Met l yJ4_append_bf812 (wsU yJ4_append_bf812 cJ4_append_bf812 2 (some (.object "java/lang/StringBuilder"))) (rmU 2 0 0) (va_Pc [.ref b, .int (nI s)] (sbM D cA b v cs.length f)) (va_Qr (fun (u : Nat → Int32) => Pf (cs ++ dgs s) u) (fun u a' t => a' = b ∧ va_P D vc (SBw cA b v (cs.length + (dgs s).length) u) t.heap) (AB b v)) 0 0 (AB b v) := by
  refine tm_met (by decide +kernel) (Nat.le_of_ble_eq_true rfl) (fun p e s₀ m args below meth c ls S hB hl hr hk hnm => ?_)
  have hx := S.1
  have hb := S.2.1
  replace hl : lv_has ls 2 [(0, .ref b), (1, .int (nI s))] := hl
  obtain ⟨hP, hK, hX, hG⟩ := hB
  have hS : va_S (AB b v) s₀.heap s₀.heap [] := va_S.rf
  refine lv_aload_n hx hb dJ4_append_bf812_0 rfl (lv_at hl 0 rfl) ?_
  refine lv_iload_n hx hb dJ4_append_bf812_1 rfl (lv_at hl 1 rfl) ?_
  refine va_callr (va_runSU (C := RJ4) (hK.1 6 _ rfl).2 S (c_J5_appendI l hcs h16 hs hbv) (va_cwSU 1 S.2.2.2.2 (consG tl_J4_53 (consG tm_appendI (consG tsup (consG to_J5_append_c97b9.1 (consG to_J5_append_c97b9.2.1 (consG to_J5_append_c97b9.2.2.1 allG)))))) rfl rfl rfl ⟨by decide, to_J5_append_c97b9.2.2.2.2.2⟩ ⟨(Nat.le_of_ble_eq_true rfl), (Nat.le_of_ble_eq_true rfl)⟩) ⟨fun _ _ _ _ q => ⟨q.1, sbM.bl _ _ _ _ q.2⟩, sb_recv hK hP, fun U hU hW => ⟨rfl, ⟨by rw [hU]; exact hP, va_K.moved hW.alike hK, hX.at hS (fun _ h => h) hU hW, hG.at hS (fun _ h => h) hU hW⟩⟩⟩ rfl rfl hl.1 rfl (lv_room (Nat.le_of_ble_eq_true rfl)) dJ4_append_bf812_2 ⟨(Nat.le_of_ble_eq_true rfl), (Nat.le_of_ble_eq_true rfl)⟩) hS (fun _ _ h => h) (fun _ h => h) (fun u a9 t H1 locs ht _ hu hw hz hk9 hS => ?_)
  obtain ⟨e9, hw⟩ := hw
  rw [e9]
  rw [ht] at hw
  replace hP := hw
  refine lv_pop hx hb dJ4_append_bf812_5 rfl ?_
  refine lv_aload_n hx hb dJ4_append_bf812_6 rfl (lv_at hl 0 rfl) ?_
  exact W.aret hx hb hr (Or.inl ⟨_, rfl⟩) (Or.inr ⟨_, rfl⟩) (fun t ht _ => ⟨⟨u, b, rfl, hu, rfl, by rw [← ht] at hP; exact hP⟩, hS.F ht⟩) hS.2.2 dJ4_append_bf812_7 hk
