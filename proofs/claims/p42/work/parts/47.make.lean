/-! A STRINGBUILDER MADE, AND ITS TEXT TOLD -/
theorem two_D {A : Nat → Prop} {p q : Nat × va_E} (h : p.1 ≠ q.1) (ha : A p.1) (hb : A q.1) : va_D A [p, q] := by
  refine ⟨fun i j x y hi hj e => ?_, fun i x hi => ?_⟩
  · match i, j, hi, hj with
    | 0, 0, _, _ => rfl
    | 1, 1, _, _ => rfl
    | 0, 1, hi, hj => cases hi; cases hj; exact absurd e h
    | 1, 0, hi, hj => cases hi; cases hj; exact absurd e.symm h
    | i + 2, _, hi, _ => simp at hi
    | 0, j + 2, _, hj => simp at hj
    | 1, j + 2, _, hj => simp at hj
  · match i, hi with
    | 0, hi => cases hi; exact ha
    | 1, hi => cases hi; exact hb
    | i + 2, hi => simp at hi
theorem one_D {A : Nat → Prop} {p : Nat × va_E} (ha : A p.1) : va_D A [p] := by
  refine ⟨fun i j x y hi hj e => ?_, fun i x hi => ?_⟩
  · match i, j, hi, hj with
    | 0, 0, _, _ => rfl
    | i + 1, _, hi, _ => simp at hi
    | 0, j + 1, _, hj => simp at hj
  · match i, hi with
    | 0, hi => cases hi; exact ha
    | i + 1, hi => simp at hi
theorem two_P {D : va_G} {p q : Nat × va_E} {H : Heap} (hp : va_at D vc p H) (hq : va_at D vc q H) : va_P D vc [p, q] H := by
  intro i x hi
  match i, hi with
  | 0, hi => cases hi; exact hp
  | 1, hi => cases hi; exact hq
  | i + 2, hi => simp at hi
theorem one_P {D : va_G} {p : Nat × va_E} {H : Heap} (hp : va_at D vc p H) : va_P D vc [p] H := by
  intro i x hi
  match i, hi with
  | 0, hi => cases hi; exact hp
  | i + 1, hi => simp at hi
abbrev SBn (b : Nat) : Nat × va_E := (b, .inr (6, [.null, .int 0, .int 0, .int 0]))
abbrev STn (a : Nat) : Nat × va_E := (a, .inr (7, [.null, .int 0, .int 0, .int 0]))
abbrev STo (a w : Nat) : Nat × va_E := (a, .inr (7, [.ref w, .int 0, .int 0, .int 0]))
abbrev BYt (cA : Nat → ClassId) (w n : Nat) (u : Nat → Int32) : Nat × va_E := (w, .inl (cA 3, (n, .inl u)))
abbrev AN (b n0 : Nat) : Nat → Prop := fun q => q = b ∨ n0 ≤ q
abbrev AS (a b v n0 : Nat) : Nat → Prop := fun q => q = a ∨ q = b ∨ q = v ∨ n0 ≤ q
abbrev Ncl (U : State) : Prop := va_Nw (.castable "[B" "java/lang/Cloneable") U
abbrev sbI (D : va_G) (cA : Nat → ClassId) (b n0 : Nat) : State → Prop := fun U => va_P D vc [SBn b] U.heap ∧ va_K D vc (tyl cA) U ∧ SxA (AN b n0) U U.heap ∧ U.heap.size = n0
theorem sbI.bl {D : va_G} {cA : Nat → ClassId} {b n0 : Nat} (U : State) (g0 : JFrame) (mk : MethodId) (a' : Array Value) (h : sbI D cA b n0 U) : sbI D cA b n0 (U.calling g0 mk a') := ⟨h.1, va_K.moved (Vm.Alike.refl U.vm) h.2.1, h.2.2.1.moved (Vm.Alike.refl U.vm), h.2.2.2⟩
theorem ac_byte : Cond.arrayClass .byte ∈ ALLW := inA 416 (by decide +kernel) (by decide +kernel)
section NB
variable {p : Program} {l : Launch} {e : Env} {R : Room} {s : State} {m : MethodId} {args : Array Value} {below : List Frame} {meth : Method} {c : Code} {H : Heap} {locs : List Loc} {cells slots : Nat} {Q : State → Prop}
variable {cc : ByteArray} {pc nL : Nat} {ls : Array Slot} {rest : List Value} {own : String} {c0 : Cond} {D : va_G} {cA : Nat → ClassId} {A : Nat → Prop} {n : Nat}
/-- a new row of bytes -/
theorem nb_row (S : CallFix p m c cc nL s args (c0 :: ALLW) own) (hK : va_K D vc (tyl cA) s) (hS : va_S A s.heap H locs) (hn : n ≤ 16) (hcells : cells + 1 ≤ R.cells) (hslots : slots + n ≤ R.slots) (hdg : decode cc pc = .ok (.newarray .byte, 2))
    (kk : ∀ H1 : Heap, H1.size = H.size + 1 → (∀ q : Nat, q < H.size → H1[q]? = H[q]?) → va_at D vc (BYt cA H.size n (fun _ => 0)) H1 → va_S A s.heap H1 locs → W p l e R s m args below meth c H1 locs (cells + 1) (slots + n) Q (F0 m (pc + 2) ls (.ref H.size :: rest))) : W p l e R s m args below meth c H locs cells slots Q (F0 m pc ls (.int (nI n) :: rest)) := by
  refine va_newaK (atype := .byte) S.1 S.2.1 (S.2.2.2.2 _ (List.mem_cons_of_mem _ ac_byte)) rfl hdg rfl (nI_pos (by omega)) (nI_clamp (by omega)) (by show n * 1 ≤ 536870912; omega) hcells hslots rfl fun H1 c1 e1 z1 o1 hAr hNm => ?_
  have hc1 : c1 = cA 3 := by
    have h3 : s.vm.findClass ("[" ++ (FieldType.byte).toString) = some (cA 3) := (hK.2 3 _ rfl).2
    exact Option.some.inj (hNm.symm.trans h3)
  subst hc1
  refine kk H1 z1 o1 ?_ ⟨Nat.le_trans hS.1 (by omega), fun q h1 h2 => (o1 q (Nat.lt_of_lt_of_le h1 hS.1)).trans (hS.2.1 q h1 h2), hS.2.2⟩
  show H1[H.size]? = some (vp_cell (cA 3) (n, .inl (fun _ => 0)))
  rw [e1, vp_cell_i]
  rfl
end NB
theorem tl_J5_3 : Cond.methodLink RJ5 3 Lib.objectInit ∈ ALLW := inA 1092 (by decide +kernel) (by decide +kernel)
theorem tl_J0_1 : Cond.methodLink RJ0 1 Lib.objectInit ∈ ALLW := inA 1247 (by decide +kernel) (by decide +kernel)
theorem to_J5_init_d00df : okI yJ5_init_d00df cJ5_init_d00df 2 1 := ⟨inA 1090 (by decide +kernel) (by decide +kernel), inA 53 (by decide +kernel) (by decide +kernel), inA 1091 (by decide +kernel) (by decide +kernel), by decide +kernel, by decide +kernel, by decide +kernel, rfl⟩
theorem tl_J4_1 : Cond.methodLink RJ4 1 yJ5_init_d00df ∈ ALLW := inA 1089 (by decide +kernel) (by decide +kernel)
theorem to_J5_length_8abf5 : okB yJ5_length_8abf5 cJ5_length_8abf5 1 (some .int) 0 := ⟨inA 1254 (by decide +kernel) (by decide +kernel), inA 53 (by decide +kernel) (by decide +kernel), inA 1260 (by decide +kernel) (by decide +kernel), by decide +kernel, by decide +kernel, by decide +kernel⟩
theorem tl_J4_343 : Cond.methodLink RJ4 343 yJ5_length_8abf5 ∈ ALLW := inA 1259 (by decide +kernel) (by decide +kernel)
theorem tm_length : Cond.sameMethod RJ5 RJ5 "length" "()I" ∈ ALLW := inA 1255 (by decide +kernel) (by decide +kernel)
theorem tl_J7_304 : Cond.methodLink RJ7 304 Lib.Math.min.name ∈ ALLW := inA 1152 (by decide +kernel) (by decide +kernel)
theorem tmin_s : Cond.static Lib.Math.min.name ∈ ALLW := inA 465 (by decide +kernel) (by decide +kernel)
theorem tmin_i : Cond.initialized "java/lang/Math" ∈ ALLW := inA 49 (by decide +kernel) (by decide +kernel)
theorem tmin_c : Cond.code Lib.Math.min.name Lib.Math.min.code 2 (some .int) ∈ ALLW := inA 466 (by decide +kernel) (by decide +kernel)
theorem to_J7_checkLength_df160 : okS yJ7_checkLength_df160 cJ7_checkLength_df160 2 none 2 := ⟨inA 1269 (by decide +kernel) (by decide +kernel), inA 57 (by decide +kernel) (by decide +kernel), inA 1270 (by decide +kernel) (by decide +kernel), by decide +kernel, by decide +kernel, by decide +kernel⟩
theorem tl_J7_343 : Cond.methodLink RJ7 343 yJ7_checkLength_df160 ∈ ALLW := inA 1268 (by decide +kernel) (by decide +kernel)
theorem tl_J7_150 : Cond.methodLink RJ7 150 arraycopyName ∈ ALLW := inA 1153 (by decide +kernel) (by decide +kernel)
theorem to_J7_copyOfRangeByte_39247 : okS yJ7_copyOfRangeByte_39247 cJ7_copyOfRangeByte_39247 5 (some (.array .byte)) 3 := ⟨inA 1266 (by decide +kernel) (by decide +kernel), inA 57 (by decide +kernel) (by decide +kernel), inA 1267 (by decide +kernel) (by decide +kernel), by decide +kernel, by decide +kernel, by decide +kernel⟩
theorem tl_J7_339 : Cond.methodLink RJ7 339 yJ7_copyOfRangeByte_39247 ∈ ALLW := inA 1265 (by decide +kernel) (by decide +kernel)
theorem tcl_l : Cond.methodLink RJ7 310 ⟨"[B", "clone", "()Ljava/lang/Object;"⟩ ∈ ALLW := inA 1145 (by decide +kernel) (by decide +kernel)
theorem tcl_s : Cond.sameMethod "[B" "java/lang/Object" "clone" "()Ljava/lang/Object;" ∈ ALLW := inA 1146 (by decide +kernel) (by decide +kernel)
theorem tcl_n : Cond.native ⟨"java/lang/Object", "clone", "()Ljava/lang/Object;"⟩ ∈ ALLW := inA 1147 (by decide +kernel) (by decide +kernel)
theorem tcl_i : Cond.instanceMethod ⟨"java/lang/Object", "clone", "()Ljava/lang/Object;"⟩ ∈ ALLW := inA 1148 (by decide +kernel) (by decide +kernel)
theorem tcl_e : Cond.selects "[B" ⟨"[B", "clone", "()Ljava/lang/Object;"⟩ ⟨"java/lang/Object", "clone", "()Ljava/lang/Object;"⟩ ∈ ALLW := inA 1149 (by decide +kernel) (by decide +kernel)
theorem tk_J7_311 : Cond.classLink RJ7 311 "[B" ∈ ALLW := inA 1151 (by decide +kernel) (by decide +kernel)
set_option maxRecDepth 100000 in
set_option maxHeartbeats 4000000 in
theorem c_J5_init (l : Launch) {D : va_G} {cA : Nat → ClassId} {b n0 : Nat} : Met l yJ5_init_d00df (wsU yJ5_init_d00df cJ5_init_d00df 2 none) (rmU 1 1 16) (va_Pc [.ref b, .int 16] (sbI D cA b n0)) (va_Qv (fun (_ : Unit) => True) (fun _ t => va_P D vc (SBw cA b n0 0 (fun _ => 0)) t.heap) (AN b n0)) 1 16 (AN b n0) := by
  refine tm_met (by decide +kernel) (Nat.le_of_ble_eq_true rfl) (fun p e s m args below meth c ls S hB hl hr hk hnm => ?_)
  have hx := S.1
  have hb := S.2.1
  replace hl : lv_has ls 2 [(0, .ref b), (1, .int 16)] := hl
  obtain ⟨hP, hK, hX, hz0⟩ := hB
  have hS : va_S (AN b n0) s.heap s.heap [] := va_S.rf
  have hbn : b ≠ n0 := fun e9 => by
    have h9 := (hP 0 _ rfl).lt
    have h8 : b < s.heap.size := h9
    omega
  refine lv_aload_n hx hb dJ5_init_d00df_0 rfl (lv_at hl 0 rfl) ?_
  refine vk_obj S tl_J5_3 ob_inst ob_code hl.1 dJ5_init_d00df_1 (Nat.le_of_ble_eq_true rfl) (Nat.le_of_ble_eq_true rfl) ?_
  refine va_gets hx hb hX.1 hS S.2.2.2.1 (S.2.2.2.2 _ (List.mem_cons_of_mem _ tf_J5_18)) (fun _ z => z) dJ5_init_d00df_4 ?_
  refine lv_if_eq (tgt := 25) hx hb dJ5_init_d00df_7 (by decide) (fun c9 => absurd c9 (by decide)) (fun _ => ?_)
  refine lv_aload_n hx hb dJ5_init_d00df_10 rfl (lv_at hl 0 rfl) ?_
  refine lv_iload_n hx hb dJ5_init_d00df_11 rfl (lv_at hl 1 rfl) ?_
  refine nb_row (n := 16) S hK hS (by decide) (Nat.le_of_ble_eq_true rfl) (Nat.le_of_ble_eq_true rfl) dJ5_init_d00df_12 (fun H hz1 ho hat hS => ?_)
  rw [hz0] at hat ⊢
  replace hP : va_P D vc [SBn b, BYt cA n0 16 (fun _ => 0)] H := two_P ((hP 0 _ rfl).kept (ho _ (hP 0 _ rfl).lt)) hat
  refine va_put hx hb S.2.2.2.2 (inC_J4 _) tyJ4 tyJ4_ok nmJ4 S.2.2.2.1 hK hP (two_D hbn (Or.inl rfl) (Or.inr (Nat.le_refl _))) hS 0 rfl rfl 0 (by decide) (S.2.2.2.2 _ (List.mem_cons_of_mem _ tf_J5_15)) (fun _ z => z) rfl rfl rfl rfl (show 0 < 4 by decide) dJ5_init_d00df_14 (fun H locs hP _ hS => ?_)
  replace hP : va_P D vc [(b, .inr (6, [.ref n0, .int 0, .int 0, .int 0])), BYt cA n0 16 (fun _ => 0)] H := hP
  refine lv_aload_n hx hb dJ5_init_d00df_17 rfl (lv_at hl 0 rfl) ?_
  refine lv_iconst (v := 0) hx hb dJ5_init_d00df_18 (by decide) ?_
  refine va_put hx hb S.2.2.2.2 (inC_J4 _) tyJ4 tyJ4_ok nmJ4 S.2.2.2.1 hK hP (two_D hbn (Or.inl rfl) (Or.inr (Nat.le_refl _))) hS 0 rfl rfl 1 (by decide) (S.2.2.2.2 _ (List.mem_cons_of_mem _ tf_J5_22)) (fun _ z => z) rfl rfl rfl rfl (show 1 < 4 by decide) dJ5_init_d00df_19 (fun H locs hP _ hS => ?_)
  replace hP : va_P D vc [(b, .inr (6, [.ref n0, .int 0, .int 0, .int 0])), BYt cA n0 16 (fun _ => 0)] H := hP
  refine lv_goto (tgt := 38) hx hb dJ5_init_d00df_22 (by decide) ?_
  exact W.vret hx hb hr (fun t ht _ => ⟨⟨(), rfl, trivial, by rw [← ht] at hP; exact hP⟩, hS.F ht⟩) hS.2.2 dJ5_init_d00df_38 hk
set_option maxRecDepth 100000 in
set_option maxHeartbeats 4000000 in
theorem c_J4_init (l : Launch) {D : va_G} {cA : Nat → ClassId} {b n0 : Nat} : Met l yJ4_init_da8c8 (wsU yJ4_init_da8c8 cJ4_init_da8c8 1 none) (rmU 2 1 16) (va_Pc [.ref b] (sbI D cA b n0)) (va_Qv (fun (_ : Unit) => True) (fun _ t => va_P D vc (SBw cA b n0 0 (fun _ => 0)) t.heap) (AN b n0)) 1 16 (AN b n0) := by
  refine tm_met (by decide +kernel) (Nat.le_of_ble_eq_true rfl) (fun p e s m args below meth c ls S hB hl hr hk hnm => ?_)
  have hx := S.1
  have hb := S.2.1
  replace hl : lv_has ls 1 [(0, .ref b)] := hl
  have hS : va_S (AN b n0) s.heap s.heap [] := va_S.rf
  refine lv_aload_n hx hb dJ4_init_da8c8_0 rfl (lv_at hl 0 rfl) ?_
  refine lv_bipush (v := 16) hx hb dJ4_init_da8c8_1 (by decide) ?_
  refine va_callv (tt_I S (fun U hU hW => ⟨by rw [hU]; exact hB.1, va_K.moved hW.alike hB.2.1, hB.2.2.1.at hS (fun _ h => h) hU hW, by rw [hU]; exact hB.2.2.2⟩) sbI.bl (c_J5_init l) to_J5_init_d00df tl_J4_1 ⟨(Nat.le_of_ble_eq_true rfl), (Nat.le_of_ble_eq_true rfl)⟩ rfl hl.1 rfl (Nat.le_of_ble_eq_true rfl) dJ4_init_da8c8_3 ⟨(Nat.le_of_ble_eq_true rfl), (Nat.le_of_ble_eq_true rfl)⟩) hS (fun _ _ h => h) (fun _ h => h) (fun u t H1 locs ht _ _ hw hz hk9 hS => ?_)
  rw [ht] at hw
  exact W.vret hx hb hr (fun t ht _ => ⟨⟨(), rfl, trivial, by rw [← ht] at hw; exact hw⟩, hS.F ht⟩) hS.2.2 dJ4_init_da8c8_6 hk
set_option maxRecDepth 100000 in
set_option maxHeartbeats 4000000 in
theorem c_J5_getValue (l : Launch) {D : va_G} {cA : Nat → ClassId} {b v k : Nat} {f : Nat → Int32} : Met l yJ5_getValue_6d5f1 (wsU yJ5_getValue_6d5f1 cJ5_getValue_6d5f1 1 (some (.array .byte))) (rmU 0 0 0) (va_Pc [.ref b] (sbB D cA b v k f NoA)) (va_Qr (fun (_ : Unit) => True) (fun _ a t => a = v) NoA) 0 0 NoA := by
  refine tm_met (by decide +kernel) (Nat.le_of_ble_eq_true rfl) (fun p e s m args below meth c ls S hB hl hr hk hnm => ?_)
  have hx := S.1
  have hb := S.2.1
  replace hl : lv_has ls 1 [(0, .ref b)] := hl
  obtain ⟨hP, hK, hX⟩ := hB
  have hS : va_S NoA s.heap s.heap [] := va_S.rf
  refine lv_aload_n hx hb dJ5_getValue_6d5f1_0 rfl (lv_at hl 0 rfl) ?_
  refine va_get hx hb S.2.2.2.2 (inC_J4 _) S.2.2.2.1 hK hP 0 rfl rfl 0 (by decide) (S.2.2.2.2 _ (List.mem_cons_of_mem _ tf_J5_15)) (fun _ z => z) rfl dJ5_getValue_6d5f1_1 ?_
  exact W.aret hx hb hr (Or.inr ⟨_, rfl⟩) (Or.inr ⟨_, rfl⟩) (fun t ht _ => ⟨⟨(), v, rfl, trivial, rfl⟩, hS.F ht⟩) hS.2.2 dJ5_getValue_6d5f1_4 hk
set_option maxRecDepth 100000 in
set_option maxHeartbeats 4000000 in
theorem c_J5_length (l : Launch) {D : va_G} {cA : Nat → ClassId} {b v k : Nat} {f : Nat → Int32} : CtT l yJ5_length_8abf5 cJ5_length_8abf5 1 (some .int) 0 [.ref b] (sbB D cA b v k f NoA) (nI k) := by
  refine tm_met (by decide +kernel) (Nat.le_of_ble_eq_true rfl) (fun p e s m args below meth c ls S hB hl hr hk hnm => ?_)
  have hx := S.1
  have hb := S.2.1
  replace hl : lv_has ls 1 [(0, .ref b)] := hl
  obtain ⟨hP, hK, hX⟩ := hB
  have hS : va_S NoA s.heap s.heap [] := va_S.rf
  refine lv_aload_n hx hb dJ5_length_8abf5_0 rfl (lv_at hl 0 rfl) ?_
  refine va_get hx hb S.2.2.2.2 (inC_J4 _) S.2.2.2.1 hK hP 0 rfl rfl 3 (by decide) (S.2.2.2.2 _ (List.mem_cons_of_mem _ tf_J5_79)) (fun _ z => z) rfl dJ5_length_8abf5_1 ?_
  exact te_i S hS hr hk rfl dJ5_length_8abf5_4
set_option maxRecDepth 100000 in
set_option maxHeartbeats 4000000 in
theorem c_J4_length (l : Launch) {D : va_G} {cA : Nat → ClassId} {b v k : Nat} {f : Nat → Int32} : CtT l yJ4_length_8abf5 cJ4_length_8abf5 1 (some .int) 1 [.ref b] (sbB D cA b v k f NoA) (nI k) := by
  refine tm_met (by decide +kernel) (Nat.le_of_ble_eq_true rfl) (fun p e s m args below meth c ls S hB hl hr hk hnm => ?_)
  have hx := S.1
  have hb := S.2.1
  replace hl : lv_has ls 1 [(0, .ref b)] := hl
  obtain ⟨hP, hK, hX⟩ := hB
  have hS : va_S NoA s.heap s.heap [] := va_S.rf
  refine lv_aload_n hx hb dJ4_length_8abf5_0 rfl (lv_at hl 0 rfl) ?_
  refine tt_i hS (va_runSU (C := RJ4) (hK.1 6 _ rfl).2 S (c_J5_length l) (va_cwSU 0 S.2.2.2.2 (consG tl_J4_343 (consG tm_length (consG tsup (consG to_J5_length_8abf5.1 (consG to_J5_length_8abf5.2.1 (consG to_J5_length_8abf5.2.2.1 allG)))))) rfl rfl rfl ⟨by decide, to_J5_length_8abf5.2.2.2.2.2⟩ ⟨(Nat.le_of_ble_eq_true rfl), (Nat.le_of_ble_eq_true rfl)⟩) ⟨fun _ _ _ _ q => ⟨q.1, sbB.bl _ _ _ _ q.2⟩, sb_recv hK hP, fun U hU hW => ⟨rfl, sbB.at hP hK hX hS (fun _ h => h.elim) U hU hW⟩⟩ rfl rfl hl.1 rfl (lv_room (Nat.le_of_ble_eq_true rfl)) dJ4_length_8abf5_1 ⟨(Nat.le_of_ble_eq_true rfl), (Nat.le_of_ble_eq_true rfl)⟩) (fun H locs ho hz hk9 hS => ?_)
  exact te_i S hS hr hk rfl dJ4_length_8abf5_4
set_option maxRecDepth 100000 in
set_option maxHeartbeats 4000000 in
theorem c_J7_check (l : Launch) {n : Nat} (hn : n ≤ 16) : CtTv l yJ7_checkLength_df160 cJ7_checkLength_df160 2 0 [.int 0, .int (nI n)] (fun _ => True) := by
  refine tm_met (by decide +kernel) (Nat.le_of_ble_eq_true rfl) (fun p e s m args below meth c ls S hB hl hr hk hnm => ?_)
  have hx := S.1
  have hb := S.2.1
  replace hl : lv_has ls 2 [(0, .int 0), (1, .int (nI n))] := hl
  have hS : va_S NoA s.heap s.heap [] := va_S.rf
  refine lv_iload_n hx hb dJ7_checkLength_df160_0 rfl (lv_at hl 1 rfl) ?_
  refine lv_iload_n hx hb dJ7_checkLength_df160_1 rfl (lv_at hl 0 rfl) ?_
  refine lv_icmp_ge (tgt := 37) hx hb dJ7_checkLength_df160_2 (by decide) (fun _ => ?_) (fun c9 => absurd (nI_pos' (by omega)) c9)
  exact te_v S hS hr hk dJ7_checkLength_df160_37
set_option maxRecDepth 100000 in
set_option maxHeartbeats 4000000 in
theorem c_J7_copyRB (l : Launch) {D : va_G} {cA : Nat → ClassId} {v n n0 : Nat} {f : Nat → Int32} (hn : n ≤ 16) (hf : ∀ j, j < n → fits .byte (.int (f j)) = true) : Met l yJ7_copyOfRangeByte_39247 (wsU yJ7_copyOfRangeByte_39247 cJ7_copyOfRangeByte_39247 5 (some (.array .byte))) (rmU 1 1 16) (va_Pc [.ref v, .int 0, .int (nI n)] (fun U => va_P D vc [SBa cA v f] U.heap ∧ va_K D vc (tyl cA) U ∧ Ncl U ∧ U.heap.size = n0)) (va_Qr (fun (u : Nat → Int32) => ∀ j, j < n → u j = f j) (fun u a t => n0 ≤ a ∧ va_P D vc [BYt cA a n u] t.heap) (AN v n0)) 1 16 (AN v n0) := by
  refine tm_met (by decide +kernel) (Nat.le_of_ble_eq_true rfl) (fun p e s m args below meth c ls S hB hl hr hk hnm => ?_)
  have hx := S.1
  have hb := S.2.1
  replace hl : lv_has ls 5 [(0, .ref v), (1, .int 0), (2, .int (nI n))] := hl
  obtain ⟨hP, hK, -, hz0⟩ := hB
  have hS : va_S (AN v n0) s.heap s.heap [] := va_S.rf
  refine lv_iload_n hx hb dJ7_copyOfRangeByte_39247_0 rfl (lv_at hl 1 rfl) ?_
  refine lv_iload_n hx hb dJ7_copyOfRangeByte_39247_1 rfl (lv_at hl 2 rfl) ?_
  refine tt_v hS (tt_S S (fun _ _ _ => trivial) (fun _ _ _ _ h => h) (c_J7_check l hn) to_J7_checkLength_df160 tl_J7_343 ⟨(Nat.le_of_ble_eq_true rfl), (Nat.le_of_ble_eq_true rfl)⟩ rfl hl.1 rfl (Nat.le_of_ble_eq_true rfl) dJ7_copyOfRangeByte_39247_2 ⟨(Nat.le_of_ble_eq_true rfl), (Nat.le_of_ble_eq_true rfl)⟩) (fun H locs hz hk9 hS => ?_)
  replace hP := hP.kept (fun i q hq => hk9 _ (hP i q hq).lt)
  have hz2 : n0 ≤ H.size := by omega
  have hvn : v ≠ H.size := Nat.ne_of_lt (hP 0 _ rfl).lt
  refine lv_iload_n hx hb dJ7_copyOfRangeByte_39247_5 rfl (lv_at hl 2 rfl) ?_
  refine lv_iload_n hx hb dJ7_copyOfRangeByte_39247_6 rfl (lv_at hl 1 rfl) ?_
  refine lv_isub hx hb dJ7_copyOfRangeByte_39247_7 ?_
  rw [show nI n - 0 = nI n from Int32.sub_zero _]
  refine lv_istore_n (lv' := [(3, .int (nI n)), (0, .ref v), (1, .int 0), (2, .int (nI n))]) hx hb dJ7_copyOfRangeByte_39247_8 rfl hl (by decide) rfl (fun ls hl => ?_)
  refine lv_iload_n hx hb dJ7_copyOfRangeByte_39247_9 rfl (lv_at hl 0 rfl) ?_
  refine W.widen (k := 0) (n := 16 - n) (Nat.le_refl 0) (Nat.zero_le _) ?_
  refine nb_row S hK hS hn (show 0 + 1 ≤ 1 by decide) (show 16 - n + n ≤ 16 by omega) dJ7_copyOfRangeByte_39247_10 (fun H1 hz1 ho hat hS => ?_)
  obtain ⟨w, hw⟩ : ∃ w, w = H.size := ⟨_, rfl⟩
  rw [← hw] at hat hvn ⊢
  have hwn : n0 ≤ w := by omega
  replace hP : va_P D vc [SBa cA v f, BYt cA w n (fun _ => 0)] H1 := two_P ((hP 0 _ rfl).kept (ho _ (hP 0 _ rfl).lt)) hat
  refine lv_astore (lv' := [(4, .ref w), (3, .int (nI n)), (0, .ref v), (1, .int 0), (2, .int (nI n))]) hx hb dJ7_copyOfRangeByte_39247_12 hl (by decide) rfl (fun ls hl => ?_)
  refine lv_aload_n hx hb dJ7_copyOfRangeByte_39247_14 rfl (lv_at hl 2 rfl) ?_
  refine lv_iload_n hx hb dJ7_copyOfRangeByte_39247_15 rfl (lv_at hl 3 rfl) ?_
  refine lv_aload hx hb dJ7_copyOfRangeByte_39247_16 (lv_at hl 0 rfl) ?_
  refine lv_iconst (v := 0) hx hb dJ7_copyOfRangeByte_39247_18 (by decide) ?_
  refine lv_aload_n hx hb dJ7_copyOfRangeByte_39247_19 rfl (lv_at hl 2 rfl) ?_
  refine va_alen (v := nI 16) hx hb hK hP 0 3 rfl rfl rfl dJ7_copyOfRangeByte_39247_20 ?_
  refine lv_iload_n hx hb dJ7_copyOfRangeByte_39247_21 rfl (lv_at hl 3 rfl) ?_
  refine lv_isub hx hb dJ7_copyOfRangeByte_39247_22 ?_
  rw [show nI 16 - 0 = nI 16 from Int32.sub_zero _]
  refine lv_iload_n hx hb dJ7_copyOfRangeByte_39247_23 rfl (lv_at hl 1 rfl) ?_
  refine va_mmin hx hb (S.2.2.1.trans hl.1.symm) S.2.2.2.1 (S.2.2.2.2 _ (List.mem_cons_of_mem _ tl_J7_304)) (S.2.2.2.2 _ (List.mem_cons_of_mem _ tmin_s)) (S.2.2.2.2 _ (List.mem_cons_of_mem _ tmin_i)) (S.2.2.2.2 _ (List.mem_cons_of_mem _ tmin_c)) (Nat.le_of_ble_eq_true rfl) (Nat.le_of_ble_eq_true rfl) (show 0 + 1 ≤ 1 by decide) (show 16 - n + n ≤ 16 by omega) dJ7_copyOfRangeByte_39247_24 ?_
  rw [show (if nI n < nI 16 then nI n else nI 16) = nI n from by
    by_cases h9 : n < 16
    · rw [if_pos (nI_lt h9 (by decide))]
    · rw [if_neg (nI_nlt (by omega) (by omega)), show n = 16 by omega]]
  refine va_copyi hx hb (S.2.2.1.trans hl.1.symm) S.2.2.2.1 (S.2.2.2.2 _ (List.mem_cons_of_mem _ tl_J7_150)) (S.2.2.2.2 _ (List.mem_cons_of_mem _ tn_copy)) (S.2.2.2.2 _ (List.mem_cons_of_mem _ tst_copy)) (S.2.2.2.2 _ (List.mem_cons_of_mem _ ti_System)) hK hP (two_D hvn (Or.inl rfl) (Or.inr hwn)) hS 0 1 3 3 rfl rfl rfl rfl rfl (by decide) (by decide) (nI_pos (by omega)) (by rw [nI_clamp (by omega)]; exact Nat.le_trans (Nat.le_of_eq (Nat.zero_add _)) hn) (by rw [nI_clamp (by omega)]; exact Nat.le_of_eq (Nat.zero_add _)) (fun i hi => by rw [nI_clamp (by omega)] at hi; show fits .byte (.int (f (0 + i))) = true; rw [Nat.zero_add]; exact hf i hi) (Nat.le_of_ble_eq_true rfl) (Nat.le_of_ble_eq_true rfl) dJ7_copyOfRangeByte_39247_27 (fun H locs hP _ hS => ?_)
  rw [nI_clamp (by omega)] at hP
  replace hP : va_P D vc [BYt cA w n (va_cpy f (fun _ => 0) 0 0 n)] H := one_P (hP 1 _ rfl)
  refine lv_aload hx hb dJ7_copyOfRangeByte_39247_30 (lv_at hl 0 rfl) ?_
  refine W.widen (k := 1) (n := 16) (by decide) (by omega) ?_
  exact W.aret hx hb hr (Or.inr ⟨_, rfl⟩) (Or.inr ⟨_, rfl⟩) (fun t ht _ => ⟨⟨_, w, rfl, fun j hj => sb_cpy0 hj, hwn, by rw [← ht] at hP; exact hP⟩, hS.F ht⟩) hS.2.2 dJ7_copyOfRangeByte_39247_32 hk
set_option maxRecDepth 100000 in
set_option maxHeartbeats 4000000 in
theorem c_J7_copyR (l : Launch) {D : va_G} {cA : Nat → ClassId} {v n n0 : Nat} {f : Nat → Int32} (hn : n ≤ 16) (hf : ∀ j, j < n → fits .byte (.int (f j)) = true) : Met l yJ7_copyOfRange_39247 (wsU yJ7_copyOfRange_39247 cJ7_copyOfRange_39247 3 (some (.array .byte))) (rmU 2 1 16) (va_Pc [.ref v, .int 0, .int (nI n)] (fun U => va_P D vc [SBa cA v f] U.heap ∧ va_K D vc (tyl cA) U ∧ Ncl U ∧ U.heap.size = n0)) (va_Qr (fun (u : Nat → Int32) => ∀ j, j < n → u j = f j) (fun u a t => n0 ≤ a ∧ va_P D vc [BYt cA a n u] t.heap) (AN v n0)) 1 16 (AN v n0) := by
  refine tm_met (by decide +kernel) (Nat.le_of_ble_eq_true rfl) (fun p e s m args below meth c ls S hB hl hr hk hnm => ?_)
  have hx := S.1
  have hb := S.2.1
  replace hl : lv_has ls 3 [(0, .ref v), (1, .int 0), (2, .int (nI n))] := hl
  obtain ⟨hP, hK, hnc, hz0⟩ := hB
  have hS : va_S (AN v n0) s.heap s.heap [] := va_S.rf
  refine lv_iload_n hx hb dJ7_copyOfRange_39247_0 rfl (lv_at hl 1 rfl) ?_
  refine lv_if_ne (tgt := 10) hx hb dJ7_copyOfRange_39247_1 (by decide) (fun c9 => absurd rfl c9) (fun _ => ?_)
  refine lv_iload_n hx hb dJ7_copyOfRange_39247_4 rfl (lv_at hl 2 rfl) ?_
  refine lv_aload_n hx hb dJ7_copyOfRange_39247_5 rfl (lv_at hl 0 rfl) ?_
  refine va_alen (v := nI 16) hx hb hK hP 0 3 rfl rfl rfl dJ7_copyOfRange_39247_6 ?_
  by_cases h16 : n = 16
  · refine lv_icmp_eq (tgt := 17) hx hb dJ7_copyOfRange_39247_7 (by decide) (fun _ => ?_) (fun c9 => absurd (by rw [h16]) c9)
    refine lv_aload_n hx hb dJ7_copyOfRange_39247_17 rfl (lv_at hl 0 rfl) ?_
    refine va_clone hx hb (S.2.2.1.trans hl.1.symm) S.2.2.2.1 (S.2.2.2.2 _ (List.mem_cons_of_mem _ tcl_l)) (S.2.2.2.2 _ (List.mem_cons_of_mem _ tcl_s)) (S.2.2.2.2 _ (List.mem_cons_of_mem _ tcl_n)) (S.2.2.2.2 _ (List.mem_cons_of_mem _ tcl_i)) (S.2.2.2.2 _ (List.mem_cons_of_mem _ tcl_e)) hnc hK hP (one_D (Or.inl rfl)) hS (fun q h => Or.inr (by omega)) 0 3 rfl rfl (hK.2 3 _ rfl).2 (fun i v hi => ?_) (Nat.le_of_ble_eq_true rfl) (Nat.le_of_ble_eq_true rfl) (Nat.le_of_ble_eq_true rfl) (Nat.le_of_ble_eq_true rfl) dJ7_copyOfRange_39247_18 (fun w H _ hP hD hS => ?_)
    · have hi : (arrV (cA 3) 16 (fun j => .int (f j))).slots[i]? = some v := hi
      have h9 : i < 16 := by
        have h8 := (Array.getElem?_eq_some_iff.mp hi).1
        rw [arrV_size] at h8
        exact h8
      have hv : v = .int (f i) := by
        unfold arrV at hi
        simp [h9] at hi
        exact hi.symm
      rw [hv]
      exact hf i (by omega)
    have hwn : n0 ≤ w := by
      rcases hD.2 1 _ rfl with h9 | h9
      · exact absurd (hD.1 0 1 _ _ rfl rfl h9.symm) (by decide)
      · exact h9
    refine va_castA hx hb S.2.2.2.1 (S.2.2.2.2 _ (List.mem_cons_of_mem _ tk_J7_311)) hP 1 rfl (hK.2 3 _ rfl).2 dJ7_copyOfRange_39247_21 ?_
    exact W.aret hx hb hr (Or.inr ⟨_, rfl⟩) (Or.inr ⟨_, rfl⟩) (fun t ht _ => ⟨⟨f, w, rfl, fun _ _ => rfl, hwn, by rw [← ht] at hP; rw [h16]; exact one_P (hP 1 _ rfl)⟩, hS.F ht⟩) hS.2.2 dJ7_copyOfRange_39247_24 hk
  · refine lv_icmp_eq (tgt := 17) hx hb dJ7_copyOfRange_39247_7 (by decide) (fun c9 => absurd ((nI_eq (by omega) (by omega)).mp c9) h16) (fun _ => ?_)
    refine lv_aload_n hx hb dJ7_copyOfRange_39247_10 rfl (lv_at hl 0 rfl) ?_
    refine lv_iload_n hx hb dJ7_copyOfRange_39247_11 rfl (lv_at hl 1 rfl) ?_
    refine lv_iload_n hx hb dJ7_copyOfRange_39247_12 rfl (lv_at hl 2 rfl) ?_
    refine va_callr (tt_S S (fun U hU hW => ⟨by rw [hU]; exact hP, va_K.moved hW.alike hK, va_Nw.warmC hW hnc, by rw [hU]; exact hz0⟩) (fun U _ _ _ h => ⟨h.1, va_K.moved (Vm.Alike.refl U.vm) h.2.1, va_Nw.same rfl rfl h.2.2.1, h.2.2.2⟩) (c_J7_copyRB l hn hf) to_J7_copyOfRangeByte_39247 tl_J7_339 ⟨(Nat.le_of_ble_eq_true rfl), (Nat.le_of_ble_eq_true rfl)⟩ rfl hl.1 rfl (Nat.le_of_ble_eq_true rfl) dJ7_copyOfRange_39247_13 ⟨(Nat.le_of_ble_eq_true rfl), (Nat.le_of_ble_eq_true rfl)⟩) hS (fun _ _ h => h) (fun _ h => h) (fun u w t H1 locs ht _ hu hw hz hk9 hS => ?_)
    rw [ht] at hw
    exact W.aret hx hb hr (Or.inr ⟨_, rfl⟩) (Or.inr ⟨_, rfl⟩) (fun t ht _ => ⟨⟨u, w, rfl, hu, hw.1, by rw [ht]; exact hw.2⟩, hS.F ht⟩) hS.2.2 dJ7_copyOfRange_39247_16 hk
