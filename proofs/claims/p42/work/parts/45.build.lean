/-! A STRINGBUILDER whose 16 bytes hold all that comes -/
theorem inA_J4 : ∀ w ∈ u_ws RJ4 TJ4 4, w ∈ ALLW := by decide +kernel
theorem inC_J4 (c : Cond) : ∀ w ∈ u_ws RJ4 TJ4 4, w ∈ c :: ALLW := fun w h => List.mem_cons_of_mem _ (inA_J4 w h)
theorem inA_J0 : ∀ w ∈ u_ws RJ0 TJ0 4, w ∈ ALLW := by decide +kernel
theorem inC_J0 (c : Cond) : ∀ w ∈ u_ws RJ0 TJ0 4, w ∈ c :: ALLW := fun w h => List.mem_cons_of_mem _ (inA_J0 w h)
abbrev AB (b v : Nat) : Nat → Prop := fun q => q = b ∨ q = v
abbrev AV (v : Nat) : Nat → Prop := fun q => q = v
abbrev SBo (b v k : Nat) : Nat × va_E := (b, .inr (6, [.ref v, .int 0, .int 0, .int (nI k)]))
abbrev SBa (cA : Nat → ClassId) (v : Nat) (f : Nat → Int32) : Nat × va_E := (v, .inl (cA 3, (16, .inl f)))
abbrev SBw (cA : Nat → ClassId) (b v k : Nat) (f : Nat → Int32) : va_W := [SBo b v k, SBa cA v f]
abbrev sbB (D : va_G) (cA : Nat → ClassId) (b v k : Nat) (f : Nat → Int32) (A : Nat → Prop) : State → Prop := fun U => va_P D vc (SBw cA b v k f) U.heap ∧ va_K D vc (tyl cA) U ∧ SxA A U U.heap
abbrev sbT (D : va_G) (cA : Nat → ClassId) (b v k : Nat) (f : Nat → Int32) (A : Nat → Prop) (a w n : Nat) (g : Nat → Int32) : State → Prop := fun U => va_P D vc (SBw cA b v k f) U.heap ∧ va_K D vc (tyl cA) U ∧ SxA A U U.heap ∧ TxA A a w n g U U.heap
section SBl
variable {D : va_G} {cA : Nat → ClassId} {b v k : Nat} {f f' : Nat → Int32} {A B : Nat → Prop} {a w n : Nat} {g : Nat → Int32} {s : State} {H H1 : Heap} {locs : List Loc}
theorem sbB.bl (U : State) (g : JFrame) (mk : MethodId) (a' : Array Value) (h : sbB D cA b v k f A U) : sbB D cA b v k f A (U.calling g mk a') := ⟨h.1, va_K.moved (Vm.Alike.refl U.vm) h.2.1, h.2.2.moved (Vm.Alike.refl U.vm)⟩
theorem sbT.bl (U : State) (g0 : JFrame) (mk : MethodId) (a' : Array Value) (h : sbT D cA b v k f A a w n g U) : sbT D cA b v k f A a w n g (U.calling g0 mk a') := ⟨h.1, va_K.moved (Vm.Alike.refl U.vm) h.2.1, h.2.2.1.moved (Vm.Alike.refl U.vm), h.2.2.2.moved (Vm.Alike.refl U.vm)⟩
theorem sbB.at (hP : va_P D vc (SBw cA b v k f) H) (hK : va_K D vc (tyl cA) s) (hX : SxA A s s.heap) (hS : va_S A s.heap H locs) (hAB : ∀ q, B q → A q) (U : State) (hU : U.heap = H) (hW : s.WarmedH U.vm) : sbB D cA b v k f B U := ⟨by rw [hU]; exact hP, va_K.moved hW.alike hK, hX.at hS hAB hU hW⟩
theorem sbT.at (hP : va_P D vc (SBw cA b v k f) H) (hK : va_K D vc (tyl cA) s) (hX : SxA A s s.heap) (hT : TxA A a w n g s s.heap) (hS : va_S A s.heap H locs) (hAB : ∀ q, B q → A q) (U : State) (hU : U.heap = H) (hW : s.WarmedH U.vm) : sbT D cA b v k f B a w n g U := ⟨by rw [hU]; exact hP, va_K.moved hW.alike hK, hX.at hS hAB hU hW, hT.at hS hAB hU hW⟩
theorem sb_D (hbv : b ≠ v) : va_D (AB b v) (SBw cA b v k f) := by
  refine ⟨fun i j p q hi hj e => ?_, fun i q hi => ?_⟩
  · match i, j, hi, hj with
    | 0, 0, _, _ => rfl
    | 1, 1, _, _ => rfl
    | 0, 1, hi, hj => cases hi; cases hj; exact absurd e hbv
    | 1, 0, hi, hj => cases hi; cases hj; exact absurd e.symm hbv
    | i + 2, _, hi, _ => simp at hi
    | 0, j + 2, _, hj => simp at hj
    | 1, j + 2, _, hj => simp at hj
  · match i, hi with
    | 0, hi => cases hi; exact Or.inl rfl
    | 1, hi => cases hi; exact Or.inr rfl
    | i + 2, hi => simp at hi
theorem sb_DV : va_D (AV v) [SBa cA v f] := by
  refine ⟨fun i j p q hi hj e => ?_, fun i q hi => ?_⟩
  · match i, j, hi, hj with
    | 0, 0, _, _ => rfl
    | i + 1, _, hi, _ => simp at hi
    | 0, j + 1, _, hj => simp at hj
  · match i, hi with
    | 0, hi => cases hi; rfl
    | i + 1, hi => simp at hi
theorem sb_kept (hP : va_P D vc (SBw cA b v k f) H) (hk : ∀ q : Nat, q < H.size → H1[q]? = H[q]?) : va_P D vc (SBw cA b v k f) H1 := hP.kept (fun i q hq => hk _ (hP i q hq).lt)
theorem sb_recv (hK : va_K D vc (tyl cA) s) (hP : va_P D vc (SBw cA b v k f) H) : ∃ cell : Cell, H[b]? = some cell ∧ cell.vm.isStatics = false ∧ s.vm.findClass "java/lang/StringBuilder" = some cell.cls := va_recv (q := (RJ4, TJ4, 4)) hK hP rfl (show (SBw cA b v k f)[0]? = some (b, .inr (6, _)) from rfl)
theorem sb_upd (hP : va_P D vc (SBw cA b v k f) H) (hbv : b ≠ v) (hk : ∀ q : Nat, q < H.size → ¬ AV v q → H1[q]? = H[q]?) (h1 : va_P D vc [SBa cA v f'] H1) : va_P D vc (SBw cA b v k f') H1 := by
  intro i q hq
  match i, hq with
  | 0, hq => cases hq; exact (hP 0 _ rfl).kept (hk _ (hP 0 _ rfl).lt hbv)
  | 1, hq => cases hq; exact h1 0 _ rfl
  | i + 2, hq => simp at hq
end SBl
/-- a private method of the superclass is found from the class too -/
theorem sel_priv {C : String} {x0 y : MethodName} {s : State} {args : Array Value} (h0 : (Cond.selects C x0 x0).before args s = true) (hc0 : x0.cls = y.cls) (hy : y.cls ≠ "java/lang/invoke/MethodHandle" ∧ y.cls ≠ "java/lang/invoke/VarHandle") (hpriv : (Cond.privateMethod y).before args s = true) (hinst : (Cond.instanceMethod y).before args s = true) : (Cond.selects C y y).before args s = true := by
  obtain ⟨c, r, m, hc, hr, hm, hs, mk, hk, hi⟩ := Cond.selects_spec (args := args) (first := s) (o := none) (s := s) (idx := []) h0
  obtain ⟨m1, methM, hnamed, hmethM, -, -⟩ := Cond.instanceMethod_spec hinst
  have hfound : s.methodFound? y.cls y.name y.desc = some m1 := State.methodFound?_of_named hnamed hy
  have hcls : m1.cls = m.cls := Option.some.inj ((findClass_of_methodNamed hnamed).symm.trans (by rw [← hc0]; exact findClass_of_methodNamed hm))
  have hsel : selectMethod {} s.vm c m1 = .method m1 := selectMethod_private hmethM (Cond.privateMethod_at hpriv m1 methM hnamed hmethM)
  simp only [Cond.before, Cond.holds, Cond.value, hc, hfound, hnamed, hsel, hcls, hk]
  simp [hi]
/-- what the bytes hold: the text cs -/
def Pf (cs : List Nat) (f : Nat → Int32) : Prop := ∀ j, j < cs.length → f j = nI (cs.getD j 0)
theorem Pf.app {cs ds : List Nat} {f : Nat → Int32} (h : Pf cs f) : Pf (cs ++ ds) (va_cpy (txf ds) f 0 cs.length ds.length) := by
  intro j hj
  rw [List.length_append] at hj
  unfold va_cpy
  by_cases h1 : j < cs.length
  · rw [if_neg (by omega), h j h1, List.getD_eq_getElem?_getD, List.getD_eq_getElem?_getD, List.getElem?_append_left h1]
  · rw [if_pos (by omega)]
    unfold txf
    rw [Nat.zero_add, List.getD_eq_getElem?_getD, List.getD_eq_getElem?_getD, List.getElem?_append_right (by omega)]
theorem nI_dif {q m : Nat} (h : q ≤ m) (hm : m < 2 ^ 30) : nI q - nI m ≤ 0 := by
  rw [Int32.le_iff_toInt_le, Int32.toInt_zero]
  have := pk_sub_toInt (a := q) (b := m) (by omega) (by omega)
  omega
theorem tf_J5_18 : Cond.fieldLink RJ5 18 "java/lang/String" "COMPACT_STRINGS" "Z" ∈ ALLW := inA 1093 (by decide +kernel) (by decide +kernel)
theorem tf_J5_22 : Cond.fieldLink RJ5 22 "java/lang/AbstractStringBuilder" "coder" "B" ∈ ALLW := inA 1102 (by decide +kernel) (by decide +kernel)
theorem tf_J5_15 : Cond.fieldLink RJ5 15 "java/lang/AbstractStringBuilder" "value" "[B" ∈ ALLW := inA 1101 (by decide +kernel) (by decide +kernel)
theorem tl_J5_40 : Cond.methodLink RJ5 40 yJ0_coder_7d493 ∈ ALLW := inA 1185 (by decide +kernel) (by decide +kernel)
theorem tl_J0_212 : Cond.methodLink RJ0 212 arraycopyName ∈ ALLW := inA 1209 (by decide +kernel) (by decide +kernel)
theorem tn_copy : Cond.native arraycopyName ∈ ALLW := inA 1155 (by decide +kernel) (by decide +kernel)
theorem tst_copy : Cond.static arraycopyName ∈ ALLW := inA 1154 (by decide +kernel) (by decide +kernel)
theorem ti_System : Cond.initialized "java/lang/System" ∈ ALLW := inA 58 (by decide +kernel) (by decide +kernel)
theorem to_J0_getBytes_840e7 : okV yJ0_getBytes_840e7 cJ0_getBytes_840e7 4 none 3 := ⟨inA 1206 (by decide +kernel) (by decide +kernel), inA 1207 (by decide +kernel) (by decide +kernel), inA 46 (by decide +kernel) (by decide +kernel), inA 1208 (by decide +kernel) (by decide +kernel), by decide +kernel, by decide +kernel, by decide +kernel⟩
theorem tl_J5_399 : Cond.methodLink RJ5 399 yJ0_getBytes_840e7 ∈ ALLW := inA 1205 (by decide +kernel) (by decide +kernel)
theorem ts_J5_inflateIfNeededFor_a7421 : Cond.selects RJ4 yJ5_inflateIfNeededFor_a7421 yJ5_inflateIfNeededFor_a7421 ∈ ALLW := List.mem_filter.mpr ⟨List.mem_append_right _ (by decide +kernel), by decide +kernel⟩
theorem to_J5_inflateIfNeededFor_a7421 : okB yJ5_inflateIfNeededFor_a7421 cJ5_inflateIfNeededFor_a7421 2 none 1 := ⟨inA 1183 (by decide +kernel) (by decide +kernel), inA 53 (by decide +kernel) (by decide +kernel), inA 1184 (by decide +kernel) (by decide +kernel), by decide +kernel, by decide +kernel, by decide +kernel⟩
theorem tl_J5_397 : Cond.methodLink RJ5 397 yJ5_inflateIfNeededFor_a7421 ∈ ALLW := inA 1181 (by decide +kernel) (by decide +kernel)
theorem to_J0_length_8abf5 : okV yJ0_length_8abf5 cJ0_length_8abf5 1 (some .int) 0 := ⟨inA 974 (by decide +kernel) (by decide +kernel), inA 975 (by decide +kernel) (by decide +kernel), inA 46 (by decide +kernel) (by decide +kernel), inA 976 (by decide +kernel) (by decide +kernel), by decide +kernel, by decide +kernel, by decide +kernel⟩
theorem tl_J5_32 : Cond.methodLink RJ5 32 yJ0_length_8abf5 ∈ ALLW := inA 1176 (by decide +kernel) (by decide +kernel)
theorem tf_J5_79 : Cond.fieldLink RJ5 79 "java/lang/AbstractStringBuilder" "count" "I" ∈ ALLW := inA 1104 (by decide +kernel) (by decide +kernel)
theorem ts_J5_ensureCapacityInternal_d00df : Cond.selects RJ4 yJ5_ensureCapacityInternal_d00df yJ5_ensureCapacityInternal_d00df ∈ ALLW := List.mem_filter.mpr ⟨List.mem_append_right _ (by decide +kernel), by decide +kernel⟩
theorem to_J5_ensureCapacityInternal_d00df : okB yJ5_ensureCapacityInternal_d00df cJ5_ensureCapacityInternal_d00df 3 none 1 := ⟨inA 1127 (by decide +kernel) (by decide +kernel), inA 53 (by decide +kernel) (by decide +kernel), inA 1128 (by decide +kernel) (by decide +kernel), by decide +kernel, by decide +kernel, by decide +kernel⟩
theorem tl_J5_100 : Cond.methodLink RJ5 100 yJ5_ensureCapacityInternal_d00df ∈ ALLW := inA 1125 (by decide +kernel) (by decide +kernel)
theorem ts_J5_putStringAt_47b60 : Cond.selects RJ4 yJ5_putStringAt_47b60 yJ5_putStringAt_47b60 ∈ ALLW := List.mem_filter.mpr ⟨List.mem_append_right _ (by decide +kernel), by decide +kernel⟩
theorem to_J5_putStringAt_47b60 : okB yJ5_putStringAt_47b60 cJ5_putStringAt_47b60 3 none 2 := ⟨inA 1179 (by decide +kernel) (by decide +kernel), inA 53 (by decide +kernel) (by decide +kernel), inA 1180 (by decide +kernel) (by decide +kernel), by decide +kernel, by decide +kernel, by decide +kernel⟩
theorem tl_J5_208 : Cond.methodLink RJ5 208 yJ5_putStringAt_47b60 ∈ ALLW := inA 1177 (by decide +kernel) (by decide +kernel)
theorem to_J5_append_cf1ce : okB yJ5_append_cf1ce cJ5_append_cf1ce 3 (some (.object "java/lang/AbstractStringBuilder")) 1 := ⟨inA 1119 (by decide +kernel) (by decide +kernel), inA 53 (by decide +kernel) (by decide +kernel), inA 1120 (by decide +kernel) (by decide +kernel), by decide +kernel, by decide +kernel, by decide +kernel⟩
theorem tl_J4_29 : Cond.methodLink RJ4 29 yJ5_append_cf1ce ∈ ALLW := inA 1118 (by decide +kernel) (by decide +kernel)
theorem tm_append : Cond.sameMethod RJ5 RJ5 "append" "(Ljava/lang/String;)Ljava/lang/AbstractStringBuilder;" ∈ ALLW := inA 1317 (by decide +kernel) (by decide +kernel)
theorem tsup : Cond.superclass RJ4 RJ5 ∈ ALLW := inA 1113 (by decide +kernel) (by decide +kernel)
set_option maxRecDepth 100000 in
set_option maxHeartbeats 4000000 in
theorem c_J5_isLatin1 (l : Launch) {D : va_G} {cA : Nat → ClassId} {b v k : Nat} {f : Nat → Int32} : CtT l yJ5_isLatin1_aae02 cJ5_isLatin1_aae02 1 (some .boolean) 0 [.ref b] (sbB D cA b v k f NoA) 1 := by
  refine tm_met (by decide +kernel) (Nat.le_of_ble_eq_true rfl) (fun p e s m args below meth c ls S hB hl hr hk hnm => ?_)
  have hx := S.1
  have hb := S.2.1
  replace hl : lv_has ls 1 [(0, .ref b)] := hl
  obtain ⟨hP, hK, hX⟩ := hB
  have hS : va_S NoA s.heap s.heap [] := va_S.rf
  refine va_gets hx hb hX.1 hS S.2.2.2.1 (S.2.2.2.2 _ (List.mem_cons_of_mem _ tf_J5_18)) (fun _ z => z) dJ5_isLatin1_aae02_0 ?_
  refine lv_if_eq (tgt := 17) hx hb dJ5_isLatin1_aae02_3 (by decide) (fun c9 => absurd c9 (by decide)) (fun _ => ?_)
  refine lv_aload_n hx hb dJ5_isLatin1_aae02_6 rfl (lv_at hl 0 rfl) ?_
  refine va_get hx hb S.2.2.2.2 (inC_J4 _) S.2.2.2.1 hK hP 0 rfl rfl 1 (by decide) (S.2.2.2.2 _ (List.mem_cons_of_mem _ tf_J5_22)) (fun _ z => z) rfl dJ5_isLatin1_aae02_7 ?_
  refine lv_if_ne (tgt := 17) hx hb dJ5_isLatin1_aae02_10 (by decide) (fun c9 => absurd rfl c9) (fun _ => ?_)
  refine lv_iconst (v := 1) hx hb dJ5_isLatin1_aae02_13 (by decide) ?_
  refine lv_goto (tgt := 18) hx hb dJ5_isLatin1_aae02_14 (by decide) ?_
  exact te_i S hS hr hk rfl dJ5_isLatin1_aae02_18
set_option maxRecDepth 100000 in
set_option maxHeartbeats 4000000 in
theorem c_J5_ensure (l : Launch) {D : va_G} {cA : Nat → ClassId} {b v k : Nat} {f : Nat → Int32} {q : Nat} (hq : q ≤ 16) : CtTv l yJ5_ensureCapacityInternal_d00df cJ5_ensureCapacityInternal_d00df 3 0 [.ref b, .int (nI q)] (sbB D cA b v k f NoA) := by
  refine tm_met (by decide +kernel) (Nat.le_of_ble_eq_true rfl) (fun p e s m args below meth c ls S hB hl hr hk hnm => ?_)
  have hx := S.1
  have hb := S.2.1
  replace hl : lv_has ls 3 [(0, .ref b), (1, .int (nI q))] := hl
  obtain ⟨hP, hK, hX⟩ := hB
  have hS : va_S NoA s.heap s.heap [] := va_S.rf
  refine lv_aload_n hx hb dJ5_ensureCapacityInternal_d00df_0 rfl (lv_at hl 0 rfl) ?_
  refine va_get hx hb S.2.2.2.2 (inC_J4 _) S.2.2.2.1 hK hP 0 rfl rfl 0 (by decide) (S.2.2.2.2 _ (List.mem_cons_of_mem _ tf_J5_15)) (fun _ z => z) rfl dJ5_ensureCapacityInternal_d00df_1 ?_
  refine va_alen (v := nI 16) hx hb hK hP 1 3 rfl rfl rfl dJ5_ensureCapacityInternal_d00df_4 ?_
  refine lv_aload_n hx hb dJ5_ensureCapacityInternal_d00df_5 rfl (lv_at hl 0 rfl) ?_
  refine va_get hx hb S.2.2.2.2 (inC_J4 _) S.2.2.2.1 hK hP 0 rfl rfl 1 (by decide) (S.2.2.2.2 _ (List.mem_cons_of_mem _ tf_J5_22)) (fun _ z => z) rfl dJ5_ensureCapacityInternal_d00df_6 ?_
  refine lv_ishr hx hb dJ5_ensureCapacityInternal_d00df_9 ?_
  rw [show nI 16 >>> ((0 : Int32) &&& 31) = nI 16 from sb_shr0 _]
  refine lv_istore_n (lv' := [(2, .int (nI 16)), (0, .ref b), (1, .int (nI q))]) hx hb dJ5_ensureCapacityInternal_d00df_10 rfl hl (by decide) rfl (fun ls hl => ?_)
  refine lv_iload_n hx hb dJ5_ensureCapacityInternal_d00df_11 rfl (lv_at hl 2 rfl) ?_
  refine lv_iload_n hx hb dJ5_ensureCapacityInternal_d00df_12 rfl (lv_at hl 0 rfl) ?_
  refine lv_isub hx hb dJ5_ensureCapacityInternal_d00df_13 ?_
  refine lv_if_le (tgt := 38) hx hb dJ5_ensureCapacityInternal_d00df_14 (by decide) (fun _ => ?_) (fun c9 => absurd (nI_dif hq (by decide)) c9)
  exact te_v S hS hr hk dJ5_ensureCapacityInternal_d00df_38
set_option maxRecDepth 100000 in
set_option maxHeartbeats 4000000 in
theorem c_J5_inflateIf (l : Launch) {D : va_G} {cA : Nat → ClassId} {b v k : Nat} {f : Nat → Int32} {a w : Nat} {cs : List Nat} (ha : ascii cs) : CtTv l yJ5_inflateIfNeededFor_a7421 cJ5_inflateIfNeededFor_a7421 2 1 [.ref b, .ref a] (sbT D cA b v k f NoA a w cs.length (txf cs)) := by
  refine tm_met (by decide +kernel) (Nat.le_of_ble_eq_true rfl) (fun p e s m args below meth c ls S hB hl hr hk hnm => ?_)
  have hx := S.1
  have hb := S.2.1
  replace hl : lv_has ls 2 [(0, .ref b), (1, .ref a)] := hl
  obtain ⟨hP, hK, hX, hT⟩ := hB
  have hS : va_S NoA s.heap s.heap [] := va_S.rf
  refine va_gets hx hb hX.1 hS S.2.2.2.1 (S.2.2.2.2 _ (List.mem_cons_of_mem _ tf_J5_18)) (fun _ z => z) dJ5_inflateIfNeededFor_a7421_0 ?_
  refine lv_if_eq (tgt := 21) hx hb dJ5_inflateIfNeededFor_a7421_3 (by decide) (fun c9 => absurd c9 (by decide)) (fun _ => ?_)
  refine lv_aload_n hx hb dJ5_inflateIfNeededFor_a7421_6 rfl (lv_at hl 0 rfl) ?_
  refine va_get hx hb S.2.2.2.2 (inC_J4 _) S.2.2.2.1 hK hP 0 rfl rfl 1 (by decide) (S.2.2.2.2 _ (List.mem_cons_of_mem _ tf_J5_22)) (fun _ z => z) rfl dJ5_inflateIfNeededFor_a7421_7 ?_
  refine lv_aload_n hx hb dJ5_inflateIfNeededFor_a7421_10 rfl (lv_at hl 1 rfl) ?_
  refine tt_i hS (tt_V S (C := "java/lang/String") (hT.recv hS) (TxB.at hX hT hS) (TxB.bl) (c_J0_coder l (a := a) (v := w) (n := cs.length) (f := txf cs)) ⟨to_J0_coder_7d493.1, to_J0_coder_7d493.2.2.1, to_J0_coder_7d493.2.2.2.1, to_J0_coder_7d493.2.2.2.2.1, to_J0_coder_7d493.2.2.2.2.2.1, to_J0_coder_7d493.2.2.2.2.2.2⟩ (S.2.2.2.2 _ (List.mem_cons_of_mem _ to_J0_coder_7d493.2.1)) tl_J5_40 ⟨(Nat.le_of_ble_eq_true rfl), (Nat.le_of_ble_eq_true rfl)⟩ rfl hl.1 rfl (Nat.le_of_ble_eq_true rfl) dJ5_inflateIfNeededFor_a7421_11 ⟨(Nat.le_of_ble_eq_true rfl), (Nat.le_of_ble_eq_true rfl)⟩) (fun H locs ho hz hk9 hS => ?_)
  refine lv_icmp_eq (tgt := 21) hx hb dJ5_inflateIfNeededFor_a7421_14 (by decide) (fun _ => ?_) (fun c9 => absurd rfl c9)
  exact te_v S hS hr hk dJ5_inflateIfNeededFor_a7421_21
set_option maxRecDepth 100000 in
set_option maxHeartbeats 4000000 in
theorem c_J0_getBytes (l : Launch) {D : va_G} {cA : Nat → ClassId} {v k : Nat} {f : Nat → Int32} {a w : Nat} {cs : List Nat} (ha : ascii cs) (hk16 : k + cs.length ≤ 16) : Met l yJ0_getBytes_840e7 (wsU yJ0_getBytes_840e7 cJ0_getBytes_840e7 4 none) (rmU 1 0 0) (va_Pc [.ref a, .ref v, .int (nI k), .int 0] (fun U => va_P D vc [SBa cA v f] U.heap ∧ va_K D vc (tyl cA) U ∧ SxA (AV v) U U.heap ∧ TxA (AV v) a w cs.length (txf cs) U U.heap)) (va_Qv (fun (_ : Unit) => True) (fun _ t => va_P D vc [SBa cA v (va_cpy (txf cs) f 0 k cs.length)] t.heap) (AV v)) 0 0 (AV v) := by
  refine tm_met (by decide +kernel) (Nat.le_of_ble_eq_true rfl) (fun p e s m args below meth c ls S hB hl hr hk hnm => ?_)
  have hx := S.1
  have hb := S.2.1
  replace hl : lv_has ls 4 [(0, .ref a), (1, .ref v), (2, .int (nI k)), (3, .int 0)] := hl
  obtain ⟨hP, hK, hX, hT⟩ := hB
  have hS : va_S (AV v) s.heap s.heap [] := va_S.rf
  have hlen := ha.2
  refine lv_aload_n hx hb dJ0_getBytes_840e7_0 rfl (lv_at hl 0 rfl) ?_
  refine tt_i hS (tt_V S (C := "java/lang/String") (hT.recv hS) (TxB.at hX hT hS) (TxB.bl) (c_J0_coder l (a := a) (v := w) (n := cs.length) (f := txf cs)) ⟨to_J0_coder_7d493.1, to_J0_coder_7d493.2.2.1, to_J0_coder_7d493.2.2.2.1, to_J0_coder_7d493.2.2.2.2.1, to_J0_coder_7d493.2.2.2.2.2.1, to_J0_coder_7d493.2.2.2.2.2.2⟩ (S.2.2.2.2 _ (List.mem_cons_of_mem _ to_J0_coder_7d493.2.1)) tl_J0_335 ⟨(Nat.le_of_ble_eq_true rfl), (Nat.le_of_ble_eq_true rfl)⟩ rfl hl.1 rfl (Nat.le_of_ble_eq_true rfl) dJ0_getBytes_840e7_1 ⟨(Nat.le_of_ble_eq_true rfl), (Nat.le_of_ble_eq_true rfl)⟩) (fun H locs ho hz hk9 hS => ?_)
  replace hP := hP.kept (fun i q hq => hk9 _ (hP i q hq).lt)
  refine lv_iload_n hx hb dJ0_getBytes_840e7_4 rfl (lv_at hl 3 rfl) ?_
  refine lv_icmp_ne (tgt := 28) hx hb dJ0_getBytes_840e7_5 (by decide) (fun c9 => absurd rfl c9) (fun _ => ?_)
  refine lv_aload_n hx hb dJ0_getBytes_840e7_8 rfl (lv_at hl 0 rfl) ?_
  refine vk_getf hx hb hT.2.2.1 hS S.2.2.2.1 (S.2.2.2.2 _ (List.mem_cons_of_mem _ tf_J0_9)) (fun _ z => z) dJ0_getBytes_840e7_9 ?_
  refine lv_iconst (v := 0) hx hb dJ0_getBytes_840e7_12 (by decide) ?_
  refine lv_aload_n hx hb dJ0_getBytes_840e7_13 rfl (lv_at hl 1 rfl) ?_
  refine lv_iload_n hx hb dJ0_getBytes_840e7_14 rfl (lv_at hl 2 rfl) ?_
  refine lv_iload_n hx hb dJ0_getBytes_840e7_15 rfl (lv_at hl 3 rfl) ?_
  refine lv_ishl hx hb dJ0_getBytes_840e7_16 ?_
  rw [show nI k <<< ((0 : Int32) &&& 31) = nI k from sb_shl0 _]
  refine lv_aload_n hx hb dJ0_getBytes_840e7_17 rfl (lv_at hl 0 rfl) ?_
  refine vk_getf hx hb hT.2.2.1 hS S.2.2.2.1 (S.2.2.2.2 _ (List.mem_cons_of_mem _ tf_J0_9)) (fun _ z => z) dJ0_getBytes_840e7_18 ?_
  refine va_tlen hx hb hT.2.2.2 hS (v := nI cs.length) rfl dJ0_getBytes_840e7_21 ?_
  refine vk_copyt hx hb (S.2.2.1.trans hl.1.symm) S.2.2.2.1 (S.2.2.2.2 _ (List.mem_cons_of_mem _ tl_J0_212)) (S.2.2.2.2 _ (List.mem_cons_of_mem _ tn_copy)) (S.2.2.2.2 _ (List.mem_cons_of_mem _ tst_copy)) (S.2.2.2.2 _ (List.mem_cons_of_mem _ ti_System)) hK hP sb_DV hS hT.2.2.2 0 3 rfl rfl (by decide) (nI_pos (by omega)) (nI_pos (by omega)) (by rw [nI_clamp (by omega)]; exact Nat.le_of_eq (Nat.zero_add _)) (by rw [nI_clamp (by omega), nI_clamp (by omega)]; exact hk16) (fun i _ => (txt_128 _ (ha.at _)).2.2.2.1) (Nat.le_of_ble_eq_true rfl) (Nat.le_of_ble_eq_true rfl) dJ0_getBytes_840e7_22 (fun H locs hP _ hS => ?_)
  rw [nI_clamp (by omega), nI_clamp (by omega)] at hP
  replace hP : va_P D vc [SBa cA v (va_cpy (txf cs) f 0 k cs.length)] H := hP
  refine lv_goto (tgt := 43) hx hb dJ0_getBytes_840e7_25 (by decide) ?_
  exact W.vret hx hb hr (fun t ht _ => ⟨⟨(), rfl, trivial, by rw [← ht] at hP; exact hP⟩, hS.F ht⟩) hS.2.2 dJ0_getBytes_840e7_43 hk
set_option maxRecDepth 100000 in
set_option maxHeartbeats 4000000 in
theorem c_J5_putStringAt (l : Launch) {D : va_G} {cA : Nat → ClassId} {b v k : Nat} {f : Nat → Int32} {a w : Nat} {cs : List Nat} (ha : ascii cs) (hk16 : k + cs.length ≤ 16) (hbv : b ≠ v) : Met l yJ5_putStringAt_47b60 (wsU yJ5_putStringAt_47b60 cJ5_putStringAt_47b60 3 none) (rmU 2 0 0) (va_Pc [.ref b, .int (nI k), .ref a] (sbT D cA b v k f (AB b v) a w cs.length (txf cs))) (va_Qv (fun (_ : Unit) => True) (fun _ t => va_P D vc (SBw cA b v k (va_cpy (txf cs) f 0 k cs.length)) t.heap) (AB b v)) 0 0 (AB b v) := by
  refine tm_met (by decide +kernel) (Nat.le_of_ble_eq_true rfl) (fun p e s m args below meth c ls S hB hl hr hk hnm => ?_)
  have hx := S.1
  have hb := S.2.1
  replace hl : lv_has ls 3 [(0, .ref b), (1, .int (nI k)), (2, .ref a)] := hl
  obtain ⟨hP, hK, hX, hT⟩ := hB
  have hS : va_S (AB b v) s.heap s.heap [] := va_S.rf
  refine lv_aload_n hx hb dJ5_putStringAt_47b60_0 rfl (lv_at hl 0 rfl) ?_
  refine lv_aload_n hx hb dJ5_putStringAt_47b60_1 rfl (lv_at hl 2 rfl) ?_
  refine tt_v hS (tt_V S (C := "java/lang/StringBuilder") (sb_recv hK hP) (sbT.at hP hK hX hT hS (fun _ h => h.elim)) (sbT.bl) (c_J5_inflateIf l ha) to_J5_inflateIfNeededFor_a7421 (S.2.2.2.2 _ (List.mem_cons_of_mem _ ts_J5_inflateIfNeededFor_a7421)) tl_J5_397 ⟨(Nat.le_of_ble_eq_true rfl), (Nat.le_of_ble_eq_true rfl)⟩ rfl hl.1 rfl (Nat.le_of_ble_eq_true rfl) dJ5_putStringAt_47b60_2 ⟨(Nat.le_of_ble_eq_true rfl), (Nat.le_of_ble_eq_true rfl)⟩) (fun H locs hz hk9 hS => ?_)
  have hP := sb_kept hP hk9
  refine lv_aload_n hx hb dJ5_putStringAt_47b60_5 rfl (lv_at hl 2 rfl) ?_
  refine lv_aload_n hx hb dJ5_putStringAt_47b60_6 rfl (lv_at hl 0 rfl) ?_
  refine va_get hx hb S.2.2.2.2 (inC_J4 _) S.2.2.2.1 hK hP 0 rfl rfl 0 (by decide) (S.2.2.2.2 _ (List.mem_cons_of_mem _ tf_J5_15)) (fun _ z => z) rfl dJ5_putStringAt_47b60_7 ?_
  refine lv_iload_n hx hb dJ5_putStringAt_47b60_10 rfl (lv_at hl 1 rfl) ?_
  refine lv_aload_n hx hb dJ5_putStringAt_47b60_11 rfl (lv_at hl 0 rfl) ?_
  refine va_get hx hb S.2.2.2.2 (inC_J4 _) S.2.2.2.1 hK hP 0 rfl rfl 1 (by decide) (S.2.2.2.2 _ (List.mem_cons_of_mem _ tf_J5_22)) (fun _ z => z) rfl dJ5_putStringAt_47b60_12 ?_
  refine va_callv (tt_V S (C := "java/lang/String") (hT.recv hS) (fun U hU hW => ⟨by rw [hU]; exact hP.sub [1] rfl, va_K.moved hW.alike hK, hX.at hS (fun _ h => Or.inr h) hU hW, hT.at hS (fun _ h => Or.inr h) hU hW⟩) (fun U _ _ _ h => ⟨h.1, va_K.moved (Vm.Alike.refl U.vm) h.2.1, h.2.2.1.moved (Vm.Alike.refl U.vm), h.2.2.2.moved (Vm.Alike.refl U.vm)⟩) (c_J0_getBytes l ha hk16) ⟨to_J0_getBytes_840e7.1, to_J0_getBytes_840e7.2.2.1, to_J0_getBytes_840e7.2.2.2.1, to_J0_getBytes_840e7.2.2.2.2.1, to_J0_getBytes_840e7.2.2.2.2.2.1, to_J0_getBytes_840e7.2.2.2.2.2.2⟩ (S.2.2.2.2 _ (List.mem_cons_of_mem _ to_J0_getBytes_840e7.2.1)) tl_J5_399 ⟨(Nat.le_of_ble_eq_true rfl), (Nat.le_of_ble_eq_true rfl)⟩ rfl hl.1 rfl (Nat.le_of_ble_eq_true rfl) dJ5_putStringAt_47b60_15 ⟨(Nat.le_of_ble_eq_true rfl), (Nat.le_of_ble_eq_true rfl)⟩) hS (fun _ _ h => Or.inr h) (fun _ h => Or.inr h) (fun u t H1 locs ht _ _ hw hz hk9 hS => ?_)
  rw [ht] at hw
  replace hP := sb_upd hP hbv hk9 hw
  exact W.vret hx hb hr (fun t ht _ => ⟨⟨(), rfl, trivial, by rw [← ht] at hP; exact hP⟩, hS.F ht⟩) hS.2.2 dJ5_putStringAt_47b60_18 hk
set_option maxRecDepth 100000 in
set_option maxHeartbeats 4000000 in
theorem c_J5_append (l : Launch) {D : va_G} {cA : Nat → ClassId} {b v k : Nat} {f : Nat → Int32} {a w : Nat} {cs : List Nat} (ha : ascii cs) (hk16 : k + cs.length ≤ 16) (hbv : b ≠ v) : Met l yJ5_append_cf1ce (wsU yJ5_append_cf1ce cJ5_append_cf1ce 3 (some (.object "java/lang/AbstractStringBuilder"))) (rmU 3 0 0) (va_Pc [.ref b, .ref a] (sbT D cA b v k f (AB b v) a w cs.length (txf cs))) (va_Qr (fun (_ : Unit) => True) (fun _ a' t => a' = b ∧ va_P D vc (SBw cA b v (k + cs.length) (va_cpy (txf cs) f 0 k cs.length)) t.heap) (AB b v)) 0 0 (AB b v) := by
  refine tm_met (by decide +kernel) (Nat.le_of_ble_eq_true rfl) (fun p e s m args below meth c ls S hB hl hr hk hnm => ?_)
  have hx := S.1
  have hb := S.2.1
  replace hl : lv_has ls 3 [(0, .ref b), (1, .ref a)] := hl
  obtain ⟨hP, hK, hX, hT⟩ := hB
  have hS : va_S (AB b v) s.heap s.heap [] := va_S.rf
  refine lv_aload_n hx hb dJ5_append_cf1ce_0 rfl (lv_at hl 1 rfl) ?_
  refine lv_ifnonnull (tgt := 9) hx hb dJ5_append_cf1ce_1 (by decide) ?_
  refine lv_aload_n hx hb dJ5_append_cf1ce_9 rfl (lv_at hl 1 rfl) ?_
  refine tt_i hS (tt_V S (C := "java/lang/String") (hT.recv hS) (TxB.at hX hT hS) (TxB.bl) (c_J0_length l (v := w) ha) ⟨to_J0_length_8abf5.1, to_J0_length_8abf5.2.2.1, to_J0_length_8abf5.2.2.2.1, to_J0_length_8abf5.2.2.2.2.1, to_J0_length_8abf5.2.2.2.2.2.1, to_J0_length_8abf5.2.2.2.2.2.2⟩ (S.2.2.2.2 _ (List.mem_cons_of_mem _ to_J0_length_8abf5.2.1)) tl_J5_32 ⟨(Nat.le_of_ble_eq_true rfl), (Nat.le_of_ble_eq_true rfl)⟩ rfl hl.1 rfl (Nat.le_of_ble_eq_true rfl) dJ5_append_cf1ce_10 ⟨(Nat.le_of_ble_eq_true rfl), (Nat.le_of_ble_eq_true rfl)⟩) (fun H locs ho hz hk9 hS => ?_)
  have hP := sb_kept hP hk9
  refine lv_istore_n (lv' := [(2, .int (nI cs.length)), (0, .ref b), (1, .ref a)]) hx hb dJ5_append_cf1ce_13 rfl hl (by decide) rfl (fun ls hl => ?_)
  refine lv_aload_n hx hb dJ5_append_cf1ce_14 rfl (lv_at hl 1 rfl) ?_
  refine lv_aload_n hx hb dJ5_append_cf1ce_15 rfl (lv_at hl 1 rfl) ?_
  refine va_get hx hb S.2.2.2.2 (inC_J4 _) S.2.2.2.1 hK hP 0 rfl rfl 3 (by decide) (S.2.2.2.2 _ (List.mem_cons_of_mem _ tf_J5_79)) (fun _ z => z) rfl dJ5_append_cf1ce_16 ?_
  refine lv_iload_n hx hb dJ5_append_cf1ce_19 rfl (lv_at hl 0 rfl) ?_
  refine lv_iadd hx hb dJ5_append_cf1ce_20 ?_
  rw [show nI k + nI cs.length = nI (k + cs.length) from nI_add k cs.length]
  refine tt_v hS (tt_V S (C := "java/lang/StringBuilder") (sb_recv hK hP) (sbB.at hP hK hX hS (fun _ h => h.elim)) (sbB.bl) (c_J5_ensure l hk16) to_J5_ensureCapacityInternal_d00df (S.2.2.2.2 _ (List.mem_cons_of_mem _ ts_J5_ensureCapacityInternal_d00df)) tl_J5_100 ⟨(Nat.le_of_ble_eq_true rfl), (Nat.le_of_ble_eq_true rfl)⟩ rfl hl.1 rfl (Nat.le_of_ble_eq_true rfl) dJ5_append_cf1ce_21 ⟨(Nat.le_of_ble_eq_true rfl), (Nat.le_of_ble_eq_true rfl)⟩) (fun H locs hz hk9 hS => ?_)
  have hP := sb_kept hP hk9
  refine lv_aload_n hx hb dJ5_append_cf1ce_24 rfl (lv_at hl 1 rfl) ?_
  refine lv_aload_n hx hb dJ5_append_cf1ce_25 rfl (lv_at hl 1 rfl) ?_
  refine va_get hx hb S.2.2.2.2 (inC_J4 _) S.2.2.2.1 hK hP 0 rfl rfl 3 (by decide) (S.2.2.2.2 _ (List.mem_cons_of_mem _ tf_J5_79)) (fun _ z => z) rfl dJ5_append_cf1ce_26 ?_
  refine lv_aload_n hx hb dJ5_append_cf1ce_29 rfl (lv_at hl 2 rfl) ?_
  refine va_callv (tt_V S (C := "java/lang/StringBuilder") (sb_recv hK hP) (sbT.at hP hK hX hT hS (fun _ h => h)) (sbT.bl) (c_J5_putStringAt l ha hk16 hbv) to_J5_putStringAt_47b60 (S.2.2.2.2 _ (List.mem_cons_of_mem _ ts_J5_putStringAt_47b60)) tl_J5_208 ⟨(Nat.le_of_ble_eq_true rfl), (Nat.le_of_ble_eq_true rfl)⟩ rfl hl.1 rfl (Nat.le_of_ble_eq_true rfl) dJ5_append_cf1ce_30 ⟨(Nat.le_of_ble_eq_true rfl), (Nat.le_of_ble_eq_true rfl)⟩) hS (fun _ _ h => h) (fun _ h => h) (fun u t H1 locs ht _ _ hw hz hk9 hS => ?_)
  rw [ht] at hw
  replace hP := hw
  refine lv_aload_n hx hb dJ5_append_cf1ce_33 rfl (lv_at hl 1 rfl) ?_
  refine lv_dup hx hb dJ5_append_cf1ce_34 rfl ?_
  refine va_get hx hb S.2.2.2.2 (inC_J4 _) S.2.2.2.1 hK hP 0 rfl rfl 3 (by decide) (S.2.2.2.2 _ (List.mem_cons_of_mem _ tf_J5_79)) (fun _ z => z) rfl dJ5_append_cf1ce_35 ?_
  refine lv_iload_n hx hb dJ5_append_cf1ce_38 rfl (lv_at hl 0 rfl) ?_
  refine lv_iadd hx hb dJ5_append_cf1ce_39 ?_
  rw [show nI k + nI cs.length = nI (k + cs.length) from nI_add k cs.length]
  refine va_put hx hb S.2.2.2.2 (inC_J4 _) tyJ4 tyJ4_ok nmJ4 S.2.2.2.1 hK hP (sb_D hbv) hS 0 rfl rfl 3 (by decide) (S.2.2.2.2 _ (List.mem_cons_of_mem _ tf_J5_79)) (fun _ z => z) rfl rfl rfl rfl (show 3 < 4 by decide) dJ5_append_cf1ce_40 (fun H locs hP _ hS => ?_)
  replace hP : va_P D vc (SBw cA b v (k + cs.length) (va_cpy (txf cs) f 0 k cs.length)) H := hP
  refine lv_aload_n hx hb dJ5_append_cf1ce_43 rfl (lv_at hl 1 rfl) ?_
  exact W.aret hx hb hr (Or.inl ⟨_, rfl⟩) (Or.inr ⟨_, rfl⟩) (fun t ht _ => ⟨⟨(), b, rfl, trivial, rfl, by rw [← ht] at hP; exact hP⟩, hS.F ht⟩) hS.2.2 dJ5_append_cf1ce_44 hk
set_option maxRecDepth 100000 in
set_option maxHeartbeats 4000000 in
theorem c_J4_append (l : Launch) {D : va_G} {cA : Nat → ClassId} {b v k : Nat} {f : Nat → Int32} {a w : Nat} {cs : List Nat} (ha : ascii cs) (hk16 : k + cs.length ≤ 16) (hbv : b ≠ v) : Met l yJ4_append_15ec4 (wsU yJ4_append_15ec4 cJ4_append_15ec4 2 (some (.object "java/lang/StringBuilder"))) (rmU 4 0 0) (va_Pc [.ref b, .ref a] (sbT D cA b v k f (AB b v) a w cs.length (txf cs))) (va_Qr (fun (_ : Unit) => True) (fun _ a' t => a' = b ∧ va_P D vc (SBw cA b v (k + cs.length) (va_cpy (txf cs) f 0 k cs.length)) t.heap) (AB b v)) 0 0 (AB b v) := by
  refine tm_met (by decide +kernel) (Nat.le_of_ble_eq_true rfl) (fun p e s m args below meth c ls S hB hl hr hk hnm => ?_)
  have hx := S.1
  have hb := S.2.1
  replace hl : lv_has ls 2 [(0, .ref b), (1, .ref a)] := hl
  obtain ⟨hP, hK, hX, hT⟩ := hB
  have hS : va_S (AB b v) s.heap s.heap [] := va_S.rf
  refine lv_aload_n hx hb dJ4_append_15ec4_0 rfl (lv_at hl 0 rfl) ?_
  refine lv_aload_n hx hb dJ4_append_15ec4_1 rfl (lv_at hl 1 rfl) ?_
  refine va_callr (va_runSU (C := RJ4) (hK.1 6 _ rfl).2 S (c_J5_append l ha hk16 hbv) (va_cwSU 1 S.2.2.2.2 (consG tl_J4_29 (consG tm_append (consG tsup (consG to_J5_append_cf1ce.1 (consG to_J5_append_cf1ce.2.1 (consG to_J5_append_cf1ce.2.2.1 allG)))))) rfl rfl rfl ⟨by decide, to_J5_append_cf1ce.2.2.2.2.2⟩ ⟨(Nat.le_of_ble_eq_true rfl), (Nat.le_of_ble_eq_true rfl)⟩) ⟨fun _ _ _ _ q => ⟨q.1, sbT.bl _ _ _ _ q.2⟩, sb_recv hK hP, fun U hU hW => ⟨rfl, sbT.at hP hK hX hT hS (fun _ h => h) U hU hW⟩⟩ rfl rfl hl.1 rfl (lv_room (Nat.le_of_ble_eq_true rfl)) dJ4_append_15ec4_2 ⟨(Nat.le_of_ble_eq_true rfl), (Nat.le_of_ble_eq_true rfl)⟩) hS (fun _ _ h => h) (fun _ h => h) (fun u a9 t H1 locs ht _ _ hw hz hk9 hS => ?_)
  obtain ⟨e9, hw⟩ := hw
  rw [e9]
  rw [ht] at hw
  replace hP := hw
  refine lv_pop hx hb dJ4_append_15ec4_5 rfl ?_
  refine lv_aload_n hx hb dJ4_append_15ec4_6 rfl (lv_at hl 0 rfl) ?_
  exact W.aret hx hb hr (Or.inl ⟨_, rfl⟩) (Or.inr ⟨_, rfl⟩) (fun t ht _ => ⟨⟨(), b, rfl, trivial, rfl, by rw [← ht] at hP; exact hP⟩, hS.F ht⟩) hS.2.2 dJ4_append_15ec4_7 hk
