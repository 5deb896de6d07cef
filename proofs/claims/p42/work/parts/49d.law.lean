/-! THE LAW: its straight line, piece by piece (written by wip/p42/law.py) -/

def nx {α : Type} (o : Option ((Nat × Wo) ⊕ α)) : Option α := o.bind fun q => Sum.elim (fun _ => none) some q
theorem nx_some {α : Type} {o : Option ((Nat × Wo) ⊕ α)} {v : α} (h : nx o = some v) : o = some (.inr v) := by
  obtain ⟨q, hq, h⟩ := ob h
  cases q with
  | inl u => cases h
  | inr w =>
    obtain rfl := Option.some.inj h
    exact hq
/-- the texts of the law: where in the table, the text, its letters -/
def lits : List (Nat × String × List Nat) := [(152, "x0;r", [120, 48, 59, 114]), (157, "/5;x0;s01", [47, 53, 59, 120, 48, 59, 115, 48, 49]), (171, "x0;s22", [120, 48, 59, 115, 50, 50]), (180, "x0;s09", [120, 48, 59, 115, 48, 57]), (182, "b44", [98, 52, 52]), (184, "pa", [112, 97]), (190, "p0m", [112, 48, 109]), (192, "t1234", [116, 49, 50, 51, 52]), (194, "r5", [114, 53]), (85, "", []), (196, "x0;", [120, 48, 59]), (198, "g0m", [103, 48, 109]), (200, "b3", [98, 51]), (202, "s012", [115, 48, 49, 50]), (204, "z", [122]), (220, "cab/def/ghi", [99, 97, 98, 47, 100, 101, 102, 47, 103, 104, 105]), (238, "..c/def/ghi", [46, 46, 99, 47, 100, 101, 102, 47, 103, 104, 105]), (249, "aeh", [97, 101, 104]), (251, "bac!", [98, 97, 99, 33]), (268, "abc/def", [97, 98, 99, 47, 100, 101, 102])]
theorem Two.at {D : va_G} {cA : Nat → ClassId} {s : State} {lx ly : Nat} {wx wy : Wo} {H H1 : Heap} {locs locs1 : List Loc} (h : Two D cA s lx ly wx wy H locs) (hk : ∀ q : Nat, q < H.size → H1[q]? = H[q]?) (hS : va_S (A0 s.heap.size) s.heap H1 locs1) : Two D cA s lx ly wx wy H1 locs1 := ⟨h.1, h.2.1, h.2.2.1.kept9 (fun k z => hk _ (h.2.2.1.lt z)), h.2.2.2.1.kept9 (fun k z => hk _ (h.2.2.2.1.lt z)), hS⟩
theorem asc {cs : List Nat} (h : (cs.all (fun c => decide (c < 128)) && decide (cs.length < 2 ^ 31)) = true) : ascii cs := by
  rw [Bool.and_eq_true, List.all_eq_true, decide_eq_true_eq] at h
  exact ⟨fun c z => of_decide_eq_true (h.1 c z), h.2⟩
def F_S_A (L : Nat) (xs : Nat → Int32) (wx : Wo) : Option (Int32 × Int32 × Int32 × Int32 × Int32 × Wo) := (F_X5_save wx).bind fun q1 => ((nx (F_L_state q1.2)).bind fun q2 => ((nx (F_X5_isBarred q2.2 0)).bind fun q3 => (some (q1.1, q2.1, (xat L xs 13), ((xat L xs 13) &&& (511 : Int32)), q3.1, q3.2))))
set_option maxRecDepth 100000 in
set_option maxHeartbeats 8000000 in
theorem s_A {p : Program} {l : Launch} {e : Env} {s : State} {m : MethodId} {args : Array Value} {below : List Frame} {meth : Method} {c : Code} {Q : State → Prop} {b : Nat} {D : va_G} {cA : Nat → ClassId} {sa : Nat → Nat} {c0 : Cond} (hst : l.stackTraces = false) (hK : va_K D vc (tyl cA) s) (hEx : Ex (0, 0, s.heap.size) sa s) (hSx : SxA (A0 s.heap.size) s s.heap) (hLit : ∀ t ∈ lits, ∃ a v : Nat, vk_R RL t.1 t.2.1 a s ∧ TxA (A0 s.heap.size) a v t.2.2.length (txf t.2.2) s s.heap) (S : CallFix p m c cL_law 11 s args (c0 :: ALLW) RL) {L : Nat} {xs : Nat → Int32} (hL9 : L < 2 ^ 31) (hXs : ∀ (H : Heap) (locs : List Loc), va_S (A0 s.heap.size) s.heap H locs → ∀ U : State, U.heap = H → s.WarmedH U.vm → va_X b L xs U U.heap ∧ b < U.heap.size) {lx ly : Nat} {wx wy : Wo} {r : Int32 × Int32 × Int32 × Int32 × Int32 × Wo} (h : F_S_A L xs wx = some r) (K : ∀ (H : Heap) (locs : List Loc) (ls : Array Slot), Two D cA s lx ly r.2.2.2.2.2 wy H locs → lv_has ls 11 [(0, .ref b), (1, .ref lx), (2, .ref ly), (3, .int r.1), (4, .int r.2.1), (5, .int r.2.2.1), (6, .int r.2.2.2.1), (7, .int r.2.2.2.2.1)] → W p l e room_1 s m args below meth c H locs 1120 8400 Q (F0 m 44 ls [])) (H : Heap) (locs : List Loc) (ls : Array Slot) (hL : Two D cA s lx ly wx wy H locs) (hl : lv_has ls 11 [(0, .ref b), (1, .ref lx), (2, .ref ly)]) : W p l e room_1 s m args below meth c H locs 1120 8400 Q (F0 m 10 ls []) := by
  have hx := S.1
  have hb := S.2.1
  unfold F_S_A at h
  refine lv_aload_n hx hb dL_law_10 rfl (lv_at hl 1 rfl) ?_
  obtain ⟨q1, hq1, h⟩ := ob h
  refine lx_call hK hEx S hL ⟨(Nat.le_of_ble_eq_true rfl), (Nat.le_of_ble_eq_true rfl)⟩ rfl hl.1 (Nat.le_of_ble_eq_true rfl) ml_L_145 (fun P hA hn => c_X5_save l P hA hn wx hq1) ok_X5_save rfl rfl dL_law_11 ⟨(Nat.le_of_ble_eq_true rfl), (Nat.le_of_ble_eq_true rfl)⟩ (fun H locs ho hL => ?_)
  refine lv_istore_n (lv' := [(3, .int q1.1), (0, .ref b), (1, .ref lx), (2, .ref ly)]) hx hb dL_law_14 rfl hl (by decide) rfl (fun ls hl => ?_)
  refine lv_aload_n hx hb dL_law_15 rfl (lv_at hl 2 rfl) ?_
  obtain ⟨q2, hq2, h⟩ := ob h
  refine lx_stat hK hEx S hL ⟨(Nat.le_of_ble_eq_true rfl), (Nat.le_of_ble_eq_true rfl)⟩ rfl hl.1 (Nat.le_of_ble_eq_true rfl) ml_L_148 (fun P hA hn => n_L_state l P hA hn q1.2 (nx_some hq2)) ok_L_state rfl dL_law_16 ⟨(Nat.le_of_ble_eq_true rfl), (Nat.le_of_ble_eq_true rfl)⟩ (fun H locs ho hL => ?_)
  refine lv_istore (lv' := [(4, .int q2.1), (3, .int q1.1), (0, .ref b), (1, .ref lx), (2, .ref ly)]) hx hb dL_law_19 hl (by decide) rfl (fun ls hl => ?_)
  refine lv_aload_n hx hb dL_law_21 rfl (lv_at hl 2 rfl) ?_
  refine lv_bipush (v := 13) hx hb dL_law_22 (by decide) ?_
  refine tt_i hL.2.2.2.2 (tt_S S (hXs H locs hL.2.2.2.2) (fun U g mk a' h => ⟨va_X.moved (Vm.Alike.refl U.vm) h.1, h.2⟩) (c_L_at l hL9 (show 13 < 2 ^ 31 by decide)) ok_L_at ml_L_24 ⟨(Nat.le_of_ble_eq_true rfl), (Nat.le_of_ble_eq_true rfl)⟩ rfl hl.1 rfl (Nat.le_of_ble_eq_true rfl) dL_law_24 ⟨(Nat.le_of_ble_eq_true rfl), (Nat.le_of_ble_eq_true rfl)⟩) (fun H1 locs1 _ hz hk9 hS => ?_)
  replace hL := hL.at hk9 hS
  clear hk9 hz
  generalize H1 = H, locs1 = locs at hL ⊢
  refine lv_istore (lv' := [(5, .int (xat L xs 13)), (4, .int q2.1), (3, .int q1.1), (0, .ref b), (1, .ref lx), (2, .ref ly)]) hx hb dL_law_27 hl (by decide) rfl (fun ls hl => ?_)
  refine lv_iload hx hb dL_law_29 (lv_at hl 0 rfl) ?_
  refine lv_sipush (v := 511) hx hb dL_law_31 (by decide) ?_
  refine lv_iand hx hb dL_law_34 ?_
  refine lv_istore (lv' := [(6, .int ((xat L xs 13) &&& (511 : Int32))), (5, .int (xat L xs 13)), (4, .int q2.1), (3, .int q1.1), (0, .ref b), (1, .ref lx), (2, .ref ly)]) hx hb dL_law_35 hl (by decide) rfl (fun ls hl => ?_)
  refine lv_aload_n hx hb dL_law_37 rfl (lv_at hl 5 rfl) ?_
  refine lv_iconst (v := 0) hx hb dL_law_38 (by decide) ?_
  obtain ⟨q3, hq3, h⟩ := ob h
  refine lx_call hK hEx S hL ⟨(Nat.le_of_ble_eq_true rfl), (Nat.le_of_ble_eq_true rfl)⟩ rfl hl.1 (Nat.le_of_ble_eq_true rfl) ml_L_82 (fun P hA hn => n_X5_isBarred l P hA hn q2.2 0 (nx_some hq3)) ok_X5_isBarred rfl rfl dL_law_39 ⟨(Nat.le_of_ble_eq_true rfl), (Nat.le_of_ble_eq_true rfl)⟩ (fun H locs ho hL => ?_)
  refine lv_istore (lv' := [(7, .int q3.1), (6, .int ((xat L xs 13) &&& (511 : Int32))), (5, .int (xat L xs 13)), (4, .int q2.1), (3, .int q1.1), (0, .ref b), (1, .ref lx), (2, .ref ly)]) hx hb dL_law_42 hl (by decide) rfl (fun ls hl => ?_)
  obtain rfl := Option.some.inj h
  refine W.widen (k := 1120) (n := 8400) (Nat.le_of_ble_eq_true rfl) (Nat.le_of_ble_eq_true rfl) ?_
  exact K _ _ _ hL (lv_sub hl [5, 6, 7, 4, 3, 2, 1, 0] rfl)
def F_S_C (wx : Wo) (wy : Wo) (x6 : Int32) (x7 : Int32) : Option (Wo × Wo) := (nx (F_X5_run wx)).bind fun q1 => (if q1.1 = (4 : Int32) then ((nx (F_X5_bar wy 0)).bind fun q2 => (if q2.1 = x7 then (none) else ((nx (F_X5_scramble q2.2 x6 5)).bind fun q3 => (if q3.1 < 0 then (none) else ((nx (F_X5_bar q3.2 0)).bind fun q4 => (if q4.1 = x7 then ((nx (F_X5_swap q4.2 0 1)).bind fun q5 => (if q5.1 < 0 then (none) else ((nx (F_L_state q1.2)).bind fun q6 => ((nx (F_L_state q5.2)).bind fun q7 => (if q6.1 = q7.1 then ((nx (F_X5_account q6.2 8)).bind fun q8 => (if q8.1 = 0 then (if (F_X5_errorPosition q8.2) = ((-1) : Int32) then (some (q8.2, q7.2)) else (none)) else (none))) else (none)))))) else (none))))))) else (none))
set_option maxRecDepth 100000 in
set_option maxHeartbeats 8000000 in
theorem s_C {p : Program} {l : Launch} {e : Env} {s : State} {m : MethodId} {args : Array Value} {below : List Frame} {meth : Method} {c : Code} {Q : State → Prop} {b : Nat} {D : va_G} {cA : Nat → ClassId} {sa : Nat → Nat} {c0 : Cond} (hst : l.stackTraces = false) (hK : va_K D vc (tyl cA) s) (hEx : Ex (0, 0, s.heap.size) sa s) (hSx : SxA (A0 s.heap.size) s s.heap) (hLit : ∀ t ∈ lits, ∃ a v : Nat, vk_R RL t.1 t.2.1 a s ∧ TxA (A0 s.heap.size) a v t.2.2.length (txf t.2.2) s s.heap) (S : CallFix p m c cL_law 11 s args (c0 :: ALLW) RL) {lx ly : Nat} {wx wy : Wo} {x3 : Int32} {x4 : Int32} {x5 : Int32} {x6 : Int32} {x7 : Int32} {r : Wo × Wo} (h : F_S_C wx wy x6 x7 = some r) (K : ∀ (H : Heap) (locs : List Loc) (ls : Array Slot), Two D cA s lx ly r.1 r.2 H locs → lv_has ls 11 [(0, .ref b), (1, .ref lx), (2, .ref ly), (3, .int x3), (4, .int x4), (5, .int x5)] → W p l e room_1 s m args below meth c H locs 1210 9060 Q (F0 m 150 ls [])) (H : Heap) (locs : List Loc) (ls : Array Slot) (hL : Two D cA s lx ly wx wy H locs) (hl : lv_has ls 11 [(0, .ref b), (1, .ref lx), (2, .ref ly), (3, .int x3), (4, .int x4), (5, .int x5), (6, .int x6), (7, .int x7)]) : W p l e room_1 s m args below meth c H locs 1200 9000 Q (F0 m 73 ls []) := by
  have hx := S.1
  have hb := S.2.1
  unfold F_S_C at h
  refine lv_aload_n hx hb dL_law_73 rfl (lv_at hl 1 rfl) ?_
  obtain ⟨q1, hq1, h⟩ := ob h
  refine lx_call hK hEx S hL ⟨(Nat.le_of_ble_eq_true rfl), (Nat.le_of_ble_eq_true rfl)⟩ rfl hl.1 (Nat.le_of_ble_eq_true rfl) ml_L_162 (fun P hA hn => n_X5_run l P hA hn wx (nx_some hq1)) ok_X5_run rfl rfl dL_law_74 ⟨(Nat.le_of_ble_eq_true rfl), (Nat.le_of_ble_eq_true rfl)⟩ (fun H locs ho hL => ?_)
  refine lv_iconst (v := 4) hx hb dL_law_77 (by decide) ?_
  refine lv_icmp_ne (tgt := 148) hx hb dL_law_78 (by decide) (fun c9 => ?_) (fun c9 => ?_)
  · rw [if_neg c9] at h
    cases h
  · rw [if_pos c9] at h
    refine lv_aload_n hx hb dL_law_81 rfl (lv_at hl 2 rfl) ?_
    refine lv_iconst (v := 0) hx hb dL_law_82 (by decide) ?_
    obtain ⟨q2, hq2, h⟩ := ob h
    refine ly_call hK hEx S hL ⟨(Nat.le_of_ble_eq_true rfl), (Nat.le_of_ble_eq_true rfl)⟩ rfl hl.1 (Nat.le_of_ble_eq_true rfl) ml_L_61 (fun P hA hn => n_X5_bar l P hA hn wy 0 (nx_some hq2)) ok_X5_bar rfl rfl dL_law_83 ⟨(Nat.le_of_ble_eq_true rfl), (Nat.le_of_ble_eq_true rfl)⟩ (fun H locs ho hL => ?_)
    refine lv_iload hx hb dL_law_86 (lv_at hl 7 rfl) ?_
    refine lv_icmp_eq (tgt := 148) hx hb dL_law_88 (by decide) (fun c10 => ?_) (fun c10 => ?_)
    · rw [if_pos c10] at h
      cases h
    · rw [if_neg c10] at h
      refine lv_aload_n hx hb dL_law_91 rfl (lv_at hl 2 rfl) ?_
      refine lv_iload hx hb dL_law_92 (lv_at hl 6 rfl) ?_
      refine lv_iconst (v := 5) hx hb dL_law_94 (by decide) ?_
      obtain ⟨q3, hq3, h⟩ := ob h
      refine ly_call hK hEx S hL ⟨(Nat.le_of_ble_eq_true rfl), (Nat.le_of_ble_eq_true rfl)⟩ rfl hl.1 (Nat.le_of_ble_eq_true rfl) ml_L_65 (fun P hA hn => n_X5_scramble l P hA hn q2.2 x6 5 (nx_some hq3)) ok_X5_scramble rfl rfl dL_law_95 ⟨(Nat.le_of_ble_eq_true rfl), (Nat.le_of_ble_eq_true rfl)⟩ (fun H locs ho hL => ?_)
      refine lv_if_lt (tgt := 148) hx hb dL_law_98 (by decide) (fun c11 => ?_) (fun c11 => ?_)
      · rw [if_pos c11] at h
        cases h
      · rw [if_neg c11] at h
        refine lv_aload_n hx hb dL_law_101 rfl (lv_at hl 2 rfl) ?_
        refine lv_iconst (v := 0) hx hb dL_law_102 (by decide) ?_
        obtain ⟨q4, hq4, h⟩ := ob h
        refine ly_call hK hEx S hL ⟨(Nat.le_of_ble_eq_true rfl), (Nat.le_of_ble_eq_true rfl)⟩ rfl hl.1 (Nat.le_of_ble_eq_true rfl) ml_L_61 (fun P hA hn => n_X5_bar l P hA hn q3.2 0 (nx_some hq4)) ok_X5_bar rfl rfl dL_law_103 ⟨(Nat.le_of_ble_eq_true rfl), (Nat.le_of_ble_eq_true rfl)⟩ (fun H locs ho hL => ?_)
        refine lv_iload hx hb dL_law_106 (lv_at hl 7 rfl) ?_
        refine lv_icmp_ne (tgt := 148) hx hb dL_law_108 (by decide) (fun c12 => ?_) (fun c12 => ?_)
        · rw [if_neg c12] at h
          cases h
        · rw [if_pos c12] at h
          refine lv_aload_n hx hb dL_law_111 rfl (lv_at hl 2 rfl) ?_
          refine lv_iconst (v := 0) hx hb dL_law_112 (by decide) ?_
          refine lv_iconst (v := 1) hx hb dL_law_113 (by decide) ?_
          obtain ⟨q5, hq5, h⟩ := ob h
          refine ly_call hK hEx S hL ⟨(Nat.le_of_ble_eq_true rfl), (Nat.le_of_ble_eq_true rfl)⟩ rfl hl.1 (Nat.le_of_ble_eq_true rfl) ml_L_58 (fun P hA hn => n_X5_swap l P hA hn q4.2 0 1 (nx_some hq5)) ok_X5_swap rfl rfl dL_law_114 ⟨(Nat.le_of_ble_eq_true rfl), (Nat.le_of_ble_eq_true rfl)⟩ (fun H locs ho hL => ?_)
          refine lv_if_lt (tgt := 148) hx hb dL_law_117 (by decide) (fun c13 => ?_) (fun c13 => ?_)
          · rw [if_pos c13] at h
            cases h
          · rw [if_neg c13] at h
            refine lv_aload_n hx hb dL_law_120 rfl (lv_at hl 1 rfl) ?_
            obtain ⟨q6, hq6, h⟩ := ob h
            refine lx_stat hK hEx S hL ⟨(Nat.le_of_ble_eq_true rfl), (Nat.le_of_ble_eq_true rfl)⟩ rfl hl.1 (Nat.le_of_ble_eq_true rfl) ml_L_148 (fun P hA hn => n_L_state l P hA hn q1.2 (nx_some hq6)) ok_L_state rfl dL_law_121 ⟨(Nat.le_of_ble_eq_true rfl), (Nat.le_of_ble_eq_true rfl)⟩ (fun H locs ho hL => ?_)
            refine lv_aload_n hx hb dL_law_124 rfl (lv_at hl 2 rfl) ?_
            obtain ⟨q7, hq7, h⟩ := ob h
            refine ly_stat hK hEx S hL ⟨(Nat.le_of_ble_eq_true rfl), (Nat.le_of_ble_eq_true rfl)⟩ rfl hl.1 (Nat.le_of_ble_eq_true rfl) ml_L_148 (fun P hA hn => n_L_state l P hA hn q5.2 (nx_some hq7)) ok_L_state rfl dL_law_125 ⟨(Nat.le_of_ble_eq_true rfl), (Nat.le_of_ble_eq_true rfl)⟩ (fun H locs ho hL => ?_)
            refine lv_icmp_ne (tgt := 148) hx hb dL_law_128 (by decide) (fun c14 => ?_) (fun c14 => ?_)
            · rw [if_neg c14] at h
              cases h
            · rw [if_pos c14] at h
              refine lv_aload_n hx hb dL_law_131 rfl (lv_at hl 1 rfl) ?_
              refine lv_bipush (v := 8) hx hb dL_law_132 (by decide) ?_
              obtain ⟨q8, hq8, h⟩ := ob h
              refine lx_call hK hEx S hL ⟨(Nat.le_of_ble_eq_true rfl), (Nat.le_of_ble_eq_true rfl)⟩ rfl hl.1 (Nat.le_of_ble_eq_true rfl) ml_L_34 (fun P hA hn => n_X5_account l P hA hn q6.2 8 (nx_some hq8)) ok_X5_account rfl rfl dL_law_134 ⟨(Nat.le_of_ble_eq_true rfl), (Nat.le_of_ble_eq_true rfl)⟩ (fun H locs ho hL => ?_)
              refine lv_if_ne (tgt := 148) hx hb dL_law_137 (by decide) (fun c15 => ?_) (fun c15 => ?_)
              · rw [if_neg c15] at h
                cases h
              · rw [if_pos c15] at h
                refine lv_aload_n hx hb dL_law_140 rfl (lv_at hl 1 rfl) ?_
                refine lx_call hK hEx S hL ⟨(Nat.le_of_ble_eq_true rfl), (Nat.le_of_ble_eq_true rfl)⟩ rfl hl.1 (Nat.le_of_ble_eq_true rfl) ml_L_165 (fun P hA hn => c_X5_errorPosition l P hA hn q8.2) ok_X5_errorPosition rfl rfl dL_law_141 ⟨(Nat.le_of_ble_eq_true rfl), (Nat.le_of_ble_eq_true rfl)⟩ (fun H locs ho hL => ?_)
                refine lv_iconst (v := (-1)) hx hb dL_law_144 (by decide) ?_
                refine lv_icmp_eq (tgt := 150) hx hb dL_law_145 (by decide) (fun c16 => ?_) (fun c16 => ?_)
                · rw [if_pos c16] at h
                  obtain rfl := Option.some.inj h
                  refine W.widen (k := 1210) (n := 9060) (Nat.le_of_ble_eq_true rfl) (Nat.le_of_ble_eq_true rfl) ?_
                  exact K _ _ _ hL (lv_sub hl [0, 1, 2, 3, 4, 5] rfl)
                · rw [if_neg c16] at h
                  cases h
def F_S_D (wx : Wo) (wy : Wo) (x4 : Int32) : Option (Wo × Wo) := (nx (F_X5_account wx 9)).bind fun q1 => ((nx (F_X5_undo q1.2)).bind fun q2 => (if q2.1 = (q1.1 - (1 : Int32)) then ((nx (F_L_state q2.2)).bind fun q3 => (if q3.1 = x4 then ((nx (F_X5_undo wy)).bind fun q4 => (if q4.1 < 0 then (none) else ((nx (F_X5_undo q4.2)).bind fun q5 => (if q5.1 < 0 then (none) else ((nx (F_X5_undo q5.2)).bind fun q6 => (if q6.1 < 0 then (none) else ((nx (F_X5_undo q6.2)).bind fun q7 => (if q7.1 < 0 then (none) else ((nx (F_L_state q7.2)).bind fun q8 => (if q8.1 = x4 then (some (q3.2, q8.2)) else (none))))))))))) else (none))) else (none)))
set_option maxRecDepth 100000 in
set_option maxHeartbeats 8000000 in
theorem s_D {p : Program} {l : Launch} {e : Env} {s : State} {m : MethodId} {args : Array Value} {below : List Frame} {meth : Method} {c : Code} {Q : State → Prop} {b : Nat} {D : va_G} {cA : Nat → ClassId} {sa : Nat → Nat} {c0 : Cond} (hst : l.stackTraces = false) (hK : va_K D vc (tyl cA) s) (hEx : Ex (0, 0, s.heap.size) sa s) (hSx : SxA (A0 s.heap.size) s s.heap) (hLit : ∀ t ∈ lits, ∃ a v : Nat, vk_R RL t.1 t.2.1 a s ∧ TxA (A0 s.heap.size) a v t.2.2.length (txf t.2.2) s s.heap) (S : CallFix p m c cL_law 11 s args (c0 :: ALLW) RL) {lx ly : Nat} {wx wy : Wo} {x3 : Int32} {x4 : Int32} {x5 : Int32} {r : Wo × Wo} (h : F_S_D wx wy x4 = some r) (K : ∀ (H : Heap) (locs : List Loc) (ls : Array Slot), Two D cA s lx ly r.1 r.2 H locs → lv_has ls 11 [(0, .ref b), (1, .ref lx), (3, .int x3), (4, .int x4), (5, .int x5)] → W p l e room_1 s m args below meth c H locs 1210 9060 Q (F0 m 217 ls [])) (H : Heap) (locs : List Loc) (ls : Array Slot) (hL : Two D cA s lx ly wx wy H locs) (hl : lv_has ls 11 [(0, .ref b), (1, .ref lx), (2, .ref ly), (3, .int x3), (4, .int x4), (5, .int x5)]) : W p l e room_1 s m args below meth c H locs 1210 9060 Q (F0 m 150 ls []) := by
  have hx := S.1
  have hb := S.2.1
  unfold F_S_D at h
  refine lv_aload_n hx hb dL_law_150 rfl (lv_at hl 1 rfl) ?_
  refine lv_bipush (v := 9) hx hb dL_law_151 (by decide) ?_
  obtain ⟨q1, hq1, h⟩ := ob h
  refine lx_call hK hEx S hL ⟨(Nat.le_of_ble_eq_true rfl), (Nat.le_of_ble_eq_true rfl)⟩ rfl hl.1 (Nat.le_of_ble_eq_true rfl) ml_L_34 (fun P hA hn => n_X5_account l P hA hn wx 9 (nx_some hq1)) ok_X5_account rfl rfl dL_law_153 ⟨(Nat.le_of_ble_eq_true rfl), (Nat.le_of_ble_eq_true rfl)⟩ (fun H locs ho hL => ?_)
  refine lv_istore (lv' := [(8, .int q1.1), (0, .ref b), (1, .ref lx), (2, .ref ly), (3, .int x3), (4, .int x4), (5, .int x5)]) hx hb dL_law_156 hl (by decide) rfl (fun ls hl => ?_)
  refine lv_aload_n hx hb dL_law_158 rfl (lv_at hl 2 rfl) ?_
  obtain ⟨q2, hq2, h⟩ := ob h
  refine lx_call hK hEx S hL ⟨(Nat.le_of_ble_eq_true rfl), (Nat.le_of_ble_eq_true rfl)⟩ rfl hl.1 (Nat.le_of_ble_eq_true rfl) ml_L_168 (fun P hA hn => n_X5_undo l P hA hn q1.2 (nx_some hq2)) ok_X5_undo rfl rfl dL_law_159 ⟨(Nat.le_of_ble_eq_true rfl), (Nat.le_of_ble_eq_true rfl)⟩ (fun H locs ho hL => ?_)
  refine lv_iload hx hb dL_law_162 (lv_at hl 0 rfl) ?_
  refine lv_iconst (v := 1) hx hb dL_law_164 (by decide) ?_
  refine lv_isub hx hb dL_law_165 ?_
  refine lv_icmp_ne (tgt := 215) hx hb dL_law_166 (by decide) (fun c9 => ?_) (fun c9 => ?_)
  · rw [if_neg c9] at h
    cases h
  · rw [if_pos c9] at h
    refine lv_aload_n hx hb dL_law_169 rfl (lv_at hl 2 rfl) ?_
    obtain ⟨q3, hq3, h⟩ := ob h
    refine lx_stat hK hEx S hL ⟨(Nat.le_of_ble_eq_true rfl), (Nat.le_of_ble_eq_true rfl)⟩ rfl hl.1 (Nat.le_of_ble_eq_true rfl) ml_L_148 (fun P hA hn => n_L_state l P hA hn q2.2 (nx_some hq3)) ok_L_state rfl dL_law_170 ⟨(Nat.le_of_ble_eq_true rfl), (Nat.le_of_ble_eq_true rfl)⟩ (fun H locs ho hL => ?_)
    refine lv_iload hx hb dL_law_173 (lv_at hl 5 rfl) ?_
    refine lv_icmp_ne (tgt := 215) hx hb dL_law_175 (by decide) (fun c10 => ?_) (fun c10 => ?_)
    · rw [if_neg c10] at h
      cases h
    · rw [if_pos c10] at h
      refine lv_aload_n hx hb dL_law_178 rfl (lv_at hl 3 rfl) ?_
      obtain ⟨q4, hq4, h⟩ := ob h
      refine ly_call hK hEx S hL ⟨(Nat.le_of_ble_eq_true rfl), (Nat.le_of_ble_eq_true rfl)⟩ rfl hl.1 (Nat.le_of_ble_eq_true rfl) ml_L_168 (fun P hA hn => n_X5_undo l P hA hn wy (nx_some hq4)) ok_X5_undo rfl rfl dL_law_179 ⟨(Nat.le_of_ble_eq_true rfl), (Nat.le_of_ble_eq_true rfl)⟩ (fun H locs ho hL => ?_)
      refine lv_if_lt (tgt := 215) hx hb dL_law_182 (by decide) (fun c11 => ?_) (fun c11 => ?_)
      · rw [if_pos c11] at h
        cases h
      · rw [if_neg c11] at h
        refine lv_aload_n hx hb dL_law_185 rfl (lv_at hl 3 rfl) ?_
        obtain ⟨q5, hq5, h⟩ := ob h
        refine ly_call hK hEx S hL ⟨(Nat.le_of_ble_eq_true rfl), (Nat.le_of_ble_eq_true rfl)⟩ rfl hl.1 (Nat.le_of_ble_eq_true rfl) ml_L_168 (fun P hA hn => n_X5_undo l P hA hn q4.2 (nx_some hq5)) ok_X5_undo rfl rfl dL_law_186 ⟨(Nat.le_of_ble_eq_true rfl), (Nat.le_of_ble_eq_true rfl)⟩ (fun H locs ho hL => ?_)
        refine lv_if_lt (tgt := 215) hx hb dL_law_189 (by decide) (fun c12 => ?_) (fun c12 => ?_)
        · rw [if_pos c12] at h
          cases h
        · rw [if_neg c12] at h
          refine lv_aload_n hx hb dL_law_192 rfl (lv_at hl 3 rfl) ?_
          obtain ⟨q6, hq6, h⟩ := ob h
          refine ly_call hK hEx S hL ⟨(Nat.le_of_ble_eq_true rfl), (Nat.le_of_ble_eq_true rfl)⟩ rfl hl.1 (Nat.le_of_ble_eq_true rfl) ml_L_168 (fun P hA hn => n_X5_undo l P hA hn q5.2 (nx_some hq6)) ok_X5_undo rfl rfl dL_law_193 ⟨(Nat.le_of_ble_eq_true rfl), (Nat.le_of_ble_eq_true rfl)⟩ (fun H locs ho hL => ?_)
          refine lv_if_lt (tgt := 215) hx hb dL_law_196 (by decide) (fun c13 => ?_) (fun c13 => ?_)
          · rw [if_pos c13] at h
            cases h
          · rw [if_neg c13] at h
            refine lv_aload_n hx hb dL_law_199 rfl (lv_at hl 3 rfl) ?_
            obtain ⟨q7, hq7, h⟩ := ob h
            refine ly_call hK hEx S hL ⟨(Nat.le_of_ble_eq_true rfl), (Nat.le_of_ble_eq_true rfl)⟩ rfl hl.1 (Nat.le_of_ble_eq_true rfl) ml_L_168 (fun P hA hn => n_X5_undo l P hA hn q6.2 (nx_some hq7)) ok_X5_undo rfl rfl dL_law_200 ⟨(Nat.le_of_ble_eq_true rfl), (Nat.le_of_ble_eq_true rfl)⟩ (fun H locs ho hL => ?_)
            refine lv_if_lt (tgt := 215) hx hb dL_law_203 (by decide) (fun c14 => ?_) (fun c14 => ?_)
            · rw [if_pos c14] at h
              cases h
            · rw [if_neg c14] at h
              refine lv_aload_n hx hb dL_law_206 rfl (lv_at hl 3 rfl) ?_
              obtain ⟨q8, hq8, h⟩ := ob h
              refine ly_stat hK hEx S hL ⟨(Nat.le_of_ble_eq_true rfl), (Nat.le_of_ble_eq_true rfl)⟩ rfl hl.1 (Nat.le_of_ble_eq_true rfl) ml_L_148 (fun P hA hn => n_L_state l P hA hn q7.2 (nx_some hq8)) ok_L_state rfl dL_law_207 ⟨(Nat.le_of_ble_eq_true rfl), (Nat.le_of_ble_eq_true rfl)⟩ (fun H locs ho hL => ?_)
              refine lv_iload hx hb dL_law_210 (lv_at hl 5 rfl) ?_
              refine lv_icmp_eq (tgt := 217) hx hb dL_law_212 (by decide) (fun c15 => ?_) (fun c15 => ?_)
              · rw [if_pos c15] at h
                obtain rfl := Option.some.inj h
                refine W.widen (k := 1210) (n := 9060) (Nat.le_of_ble_eq_true rfl) (Nat.le_of_ble_eq_true rfl) ?_
                exact K _ _ _ hL (lv_sub hl [1, 2, 4, 5, 6] rfl)
              · rw [if_neg c15] at h
                cases h
def F_S_E (wx : Wo) (x4 : Int32) : Option (Wo) := (puts wx [120, 48, 59, 115, 50, 50]).bind fun q1 => ((F_L_runs q1).bind fun q2 => (if q2.1 = ((-2) : Int32) then ((nx (F_X5_refusal q2.2 0)).bind fun q3 => (if q3.1 = (3 : Int32) then ((nx (F_X5_refusal q3.2 1)).bind fun q4 => (if q4.1 = (2 : Int32) then ((nx (F_L_state q4.2)).bind fun q5 => (if q5.1 = x4 then (some q5.2) else (none))) else (none))) else (none))) else (none)))
set_option maxRecDepth 100000 in
set_option maxHeartbeats 8000000 in
theorem s_E {p : Program} {l : Launch} {e : Env} {s : State} {m : MethodId} {args : Array Value} {below : List Frame} {meth : Method} {c : Code} {Q : State → Prop} {b : Nat} {D : va_G} {cA : Nat → ClassId} {sa : Nat → Nat} {c0 : Cond} (hst : l.stackTraces = false) (hK : va_K D vc (tyl cA) s) (hEx : Ex (0, 0, s.heap.size) sa s) (hSx : SxA (A0 s.heap.size) s s.heap) (hLit : ∀ t ∈ lits, ∃ a v : Nat, vk_R RL t.1 t.2.1 a s ∧ TxA (A0 s.heap.size) a v t.2.2.length (txf t.2.2) s s.heap) (S : CallFix p m c cL_law 11 s args (c0 :: ALLW) RL) {lx ly : Nat} {wx wy : Wo} {x3 : Int32} {x4 : Int32} {x5 : Int32} {r : Wo} (h : F_S_E wx x4 = some r) (K : ∀ (H : Heap) (locs : List Loc) (ls : Array Slot), Two D cA s lx ly r wy H locs → lv_has ls 11 [(0, .ref b), (1, .ref lx), (3, .int x3), (4, .int x4), (5, .int x5)] → W p l e room_1 s m args below meth c H locs 1211 9066 Q (F0 m 261 ls [])) (H : Heap) (locs : List Loc) (ls : Array Slot) (hL : Two D cA s lx ly wx wy H locs) (hl : lv_has ls 11 [(0, .ref b), (1, .ref lx), (3, .int x3), (4, .int x4), (5, .int x5)]) : W p l e room_1 s m args below meth c H locs 1210 9060 Q (F0 m 217 ls []) := by
  have hx := S.1
  have hb := S.2.1
  unfold F_S_E at h
  refine lv_aload_n hx hb dL_law_217 rfl (lv_at hl 1 rfl) ?_
  obtain ⟨a171, v171, z171, t171⟩ := hLit _ (List.mem_of_getElem? (show lits[2]? = some (171, "x0;s22", [120, 48, 59, 115, 50, 50]) from rfl))
  refine va_ldcS hx hb S.2.2.2.1 z171 dL_law_218 ?_
  obtain ⟨q1, hq1, h⟩ := ob h
  refine lx_put hK hEx S hL hSx ⟨(Nat.le_of_ble_eq_true rfl), (Nat.le_of_ble_eq_true rfl)⟩ hl.1 (Nat.le_of_ble_eq_true rfl) ml_L_159 (lit_at t171 hL.2.2.2.2 hL.1) (fun P hA hn => c_L_put l P hA hn (asc rfl) wx hq1) ok_L_put rfl dL_law_220 ⟨(Nat.le_of_ble_eq_true rfl), (Nat.le_of_ble_eq_true rfl)⟩ (fun H locs hL => ?_)
  refine lv_aload_n hx hb dL_law_223 rfl (lv_at hl 1 rfl) ?_
  obtain ⟨q2, hq2, h⟩ := ob h
  refine lx_tab hK hEx S hL ⟨(Nat.le_of_ble_eq_true rfl), (Nat.le_of_ble_eq_true rfl)⟩ rfl hl.1 (Nat.le_of_ble_eq_true rfl) ml_L_173 (fun P hA hn => c_L_runs l P hA hn hst q1 hq2) ok_L_runs rfl dL_law_224 ⟨(Nat.le_of_ble_eq_true rfl), (Nat.le_of_ble_eq_true rfl)⟩ (fun H locs ho hL => ?_)
  refine lv_bipush (v := (-2)) hx hb dL_law_227 (by decide) ?_
  refine lv_icmp_ne (tgt := 259) hx hb dL_law_229 (by decide) (fun c6 => ?_) (fun c6 => ?_)
  · rw [if_neg c6] at h
    cases h
  · rw [if_pos c6] at h
    refine lv_aload_n hx hb dL_law_232 rfl (lv_at hl 1 rfl) ?_
    refine lv_iconst (v := 0) hx hb dL_law_233 (by decide) ?_
    obtain ⟨q3, hq3, h⟩ := ob h
    refine lx_call hK hEx S hL ⟨(Nat.le_of_ble_eq_true rfl), (Nat.le_of_ble_eq_true rfl)⟩ rfl hl.1 (Nat.le_of_ble_eq_true rfl) ml_L_176 (fun P hA hn => n_X5_refusal l P hA hn q2.2 0 (nx_some hq3)) ok_X5_refusal rfl rfl dL_law_234 ⟨(Nat.le_of_ble_eq_true rfl), (Nat.le_of_ble_eq_true rfl)⟩ (fun H locs ho hL => ?_)
    refine lv_iconst (v := 3) hx hb dL_law_237 (by decide) ?_
    refine lv_icmp_ne (tgt := 259) hx hb dL_law_238 (by decide) (fun c7 => ?_) (fun c7 => ?_)
    · rw [if_neg c7] at h
      cases h
    · rw [if_pos c7] at h
      refine lv_aload_n hx hb dL_law_241 rfl (lv_at hl 1 rfl) ?_
      refine lv_iconst (v := 1) hx hb dL_law_242 (by decide) ?_
      obtain ⟨q4, hq4, h⟩ := ob h
      refine lx_call hK hEx S hL ⟨(Nat.le_of_ble_eq_true rfl), (Nat.le_of_ble_eq_true rfl)⟩ rfl hl.1 (Nat.le_of_ble_eq_true rfl) ml_L_176 (fun P hA hn => n_X5_refusal l P hA hn q3.2 1 (nx_some hq4)) ok_X5_refusal rfl rfl dL_law_243 ⟨(Nat.le_of_ble_eq_true rfl), (Nat.le_of_ble_eq_true rfl)⟩ (fun H locs ho hL => ?_)
      refine lv_iconst (v := 2) hx hb dL_law_246 (by decide) ?_
      refine lv_icmp_ne (tgt := 259) hx hb dL_law_247 (by decide) (fun c8 => ?_) (fun c8 => ?_)
      · rw [if_neg c8] at h
        cases h
      · rw [if_pos c8] at h
        refine lv_aload_n hx hb dL_law_250 rfl (lv_at hl 1 rfl) ?_
        obtain ⟨q5, hq5, h⟩ := ob h
        refine lx_stat hK hEx S hL ⟨(Nat.le_of_ble_eq_true rfl), (Nat.le_of_ble_eq_true rfl)⟩ rfl hl.1 (Nat.le_of_ble_eq_true rfl) ml_L_148 (fun P hA hn => n_L_state l P hA hn q4.2 (nx_some hq5)) ok_L_state rfl dL_law_251 ⟨(Nat.le_of_ble_eq_true rfl), (Nat.le_of_ble_eq_true rfl)⟩ (fun H locs ho hL => ?_)
        refine lv_iload hx hb dL_law_254 (lv_at hl 3 rfl) ?_
        refine lv_icmp_eq (tgt := 261) hx hb dL_law_256 (by decide) (fun c9 => ?_) (fun c9 => ?_)
        · rw [if_pos c9] at h
          obtain rfl := Option.some.inj h
          refine W.widen (k := 1211) (n := 9066) (Nat.le_of_ble_eq_true rfl) (Nat.le_of_ble_eq_true rfl) ?_
          exact K _ _ _ hL (lv_sub hl [0, 1, 2, 3, 4] rfl)
        · rw [if_neg c9] at h
          cases h
def F_S_F (wx : Wo) (x4 : Int32) : Option (Wo) := (puts wx [120, 48, 59, 115, 48, 57]).bind fun q1 => ((F_L_runs q1).bind fun q2 => (if q2.1 = ((-1) : Int32) then (if (F_X5_errorPosition q2.2) = ((-1) : Int32) then ((nx (F_L_state q2.2)).bind fun q3 => (if q3.1 = x4 then (some q3.2) else (none))) else (none)) else (none)))
set_option maxRecDepth 100000 in
set_option maxHeartbeats 8000000 in
theorem s_F {p : Program} {l : Launch} {e : Env} {s : State} {m : MethodId} {args : Array Value} {below : List Frame} {meth : Method} {c : Code} {Q : State → Prop} {b : Nat} {D : va_G} {cA : Nat → ClassId} {sa : Nat → Nat} {c0 : Cond} (hst : l.stackTraces = false) (hK : va_K D vc (tyl cA) s) (hEx : Ex (0, 0, s.heap.size) sa s) (hSx : SxA (A0 s.heap.size) s s.heap) (hLit : ∀ t ∈ lits, ∃ a v : Nat, vk_R RL t.1 t.2.1 a s ∧ TxA (A0 s.heap.size) a v t.2.2.length (txf t.2.2) s s.heap) (S : CallFix p m c cL_law 11 s args (c0 :: ALLW) RL) {lx ly : Nat} {wx wy : Wo} {x3 : Int32} {x4 : Int32} {x5 : Int32} {r : Wo} (h : F_S_F wx x4 = some r) (K : ∀ (H : Heap) (locs : List Loc) (ls : Array Slot), Two D cA s lx ly r wy H locs → lv_has ls 11 [(0, .ref b), (1, .ref lx), (3, .int x3), (4, .int x4), (5, .int x5)] → W p l e room_1 s m args below meth c H locs 1212 9072 Q (F0 m 294 ls [])) (H : Heap) (locs : List Loc) (ls : Array Slot) (hL : Two D cA s lx ly wx wy H locs) (hl : lv_has ls 11 [(0, .ref b), (1, .ref lx), (3, .int x3), (4, .int x4), (5, .int x5)]) : W p l e room_1 s m args below meth c H locs 1211 9066 Q (F0 m 261 ls []) := by
  have hx := S.1
  have hb := S.2.1
  unfold F_S_F at h
  refine lv_aload_n hx hb dL_law_261 rfl (lv_at hl 1 rfl) ?_
  obtain ⟨a180, v180, z180, t180⟩ := hLit _ (List.mem_of_getElem? (show lits[3]? = some (180, "x0;s09", [120, 48, 59, 115, 48, 57]) from rfl))
  refine va_ldcS hx hb S.2.2.2.1 z180 dL_law_262 ?_
  obtain ⟨q1, hq1, h⟩ := ob h
  refine lx_put hK hEx S hL hSx ⟨(Nat.le_of_ble_eq_true rfl), (Nat.le_of_ble_eq_true rfl)⟩ hl.1 (Nat.le_of_ble_eq_true rfl) ml_L_159 (lit_at t180 hL.2.2.2.2 hL.1) (fun P hA hn => c_L_put l P hA hn (asc rfl) wx hq1) ok_L_put rfl dL_law_264 ⟨(Nat.le_of_ble_eq_true rfl), (Nat.le_of_ble_eq_true rfl)⟩ (fun H locs hL => ?_)
  refine lv_aload_n hx hb dL_law_267 rfl (lv_at hl 1 rfl) ?_
  obtain ⟨q2, hq2, h⟩ := ob h
  refine lx_tab hK hEx S hL ⟨(Nat.le_of_ble_eq_true rfl), (Nat.le_of_ble_eq_true rfl)⟩ rfl hl.1 (Nat.le_of_ble_eq_true rfl) ml_L_173 (fun P hA hn => c_L_runs l P hA hn hst q1 hq2) ok_L_runs rfl dL_law_268 ⟨(Nat.le_of_ble_eq_true rfl), (Nat.le_of_ble_eq_true rfl)⟩ (fun H locs ho hL => ?_)
  refine lv_iconst (v := (-1)) hx hb dL_law_271 (by decide) ?_
  refine lv_icmp_ne (tgt := 292) hx hb dL_law_272 (by decide) (fun c4 => ?_) (fun c4 => ?_)
  · rw [if_neg c4] at h
    cases h
  · rw [if_pos c4] at h
    refine lv_aload_n hx hb dL_law_275 rfl (lv_at hl 1 rfl) ?_
    refine lx_call hK hEx S hL ⟨(Nat.le_of_ble_eq_true rfl), (Nat.le_of_ble_eq_true rfl)⟩ rfl hl.1 (Nat.le_of_ble_eq_true rfl) ml_L_165 (fun P hA hn => c_X5_errorPosition l P hA hn q2.2) ok_X5_errorPosition rfl rfl dL_law_276 ⟨(Nat.le_of_ble_eq_true rfl), (Nat.le_of_ble_eq_true rfl)⟩ (fun H locs ho hL => ?_)
    refine lv_iconst (v := (-1)) hx hb dL_law_279 (by decide) ?_
    refine lv_icmp_ne (tgt := 292) hx hb dL_law_280 (by decide) (fun c5 => ?_) (fun c5 => ?_)
    · rw [if_neg c5] at h
      cases h
    · rw [if_pos c5] at h
      refine lv_aload_n hx hb dL_law_283 rfl (lv_at hl 1 rfl) ?_
      obtain ⟨q3, hq3, h⟩ := ob h
      refine lx_stat hK hEx S hL ⟨(Nat.le_of_ble_eq_true rfl), (Nat.le_of_ble_eq_true rfl)⟩ rfl hl.1 (Nat.le_of_ble_eq_true rfl) ml_L_148 (fun P hA hn => n_L_state l P hA hn q2.2 (nx_some hq3)) ok_L_state rfl dL_law_284 ⟨(Nat.le_of_ble_eq_true rfl), (Nat.le_of_ble_eq_true rfl)⟩ (fun H locs ho hL => ?_)
      refine lv_iload hx hb dL_law_287 (lv_at hl 3 rfl) ?_
      refine lv_icmp_eq (tgt := 294) hx hb dL_law_289 (by decide) (fun c6 => ?_) (fun c6 => ?_)
      · rw [if_pos c6] at h
        obtain rfl := Option.some.inj h
        refine W.widen (k := 1212) (n := 9072) (Nat.le_of_ble_eq_true rfl) (Nat.le_of_ble_eq_true rfl) ?_
        exact K _ _ _ hL (lv_sub hl [0, 1, 2, 3, 4] rfl)
      · rw [if_neg c6] at h
        cases h
def F_S_G (wx : Wo) : Option (Wo) := (puts wx [98, 52, 52]).bind fun q1 => ((F_L_runs q1).bind fun q2 => (if q2.1 = ((-1) : Int32) then (if (F_X5_errorPosition q2.2) = ((-1) : Int32) then (some q2.2) else (none)) else (none)))
set_option maxRecDepth 100000 in
set_option maxHeartbeats 8000000 in
theorem s_G {p : Program} {l : Launch} {e : Env} {s : State} {m : MethodId} {args : Array Value} {below : List Frame} {meth : Method} {c : Code} {Q : State → Prop} {b : Nat} {D : va_G} {cA : Nat → ClassId} {sa : Nat → Nat} {c0 : Cond} (hst : l.stackTraces = false) (hK : va_K D vc (tyl cA) s) (hEx : Ex (0, 0, s.heap.size) sa s) (hSx : SxA (A0 s.heap.size) s s.heap) (hLit : ∀ t ∈ lits, ∃ a v : Nat, vk_R RL t.1 t.2.1 a s ∧ TxA (A0 s.heap.size) a v t.2.2.length (txf t.2.2) s s.heap) (S : CallFix p m c cL_law 11 s args (c0 :: ALLW) RL) {lx ly : Nat} {wx wy : Wo} {x3 : Int32} {x4 : Int32} {x5 : Int32} {r : Wo} (h : F_S_G wx = some r) (K : ∀ (H : Heap) (locs : List Loc) (ls : Array Slot), Two D cA s lx ly r wy H locs → lv_has ls 11 [(0, .ref b), (1, .ref lx), (3, .int x3), (4, .int x4), (5, .int x5)] → W p l e room_1 s m args below meth c H locs 1213 9078 Q (F0 m 318 ls [])) (H : Heap) (locs : List Loc) (ls : Array Slot) (hL : Two D cA s lx ly wx wy H locs) (hl : lv_has ls 11 [(0, .ref b), (1, .ref lx), (3, .int x3), (4, .int x4), (5, .int x5)]) : W p l e room_1 s m args below meth c H locs 1212 9072 Q (F0 m 294 ls []) := by
  have hx := S.1
  have hb := S.2.1
  unfold F_S_G at h
  refine lv_aload_n hx hb dL_law_294 rfl (lv_at hl 1 rfl) ?_
  obtain ⟨a182, v182, z182, t182⟩ := hLit _ (List.mem_of_getElem? (show lits[4]? = some (182, "b44", [98, 52, 52]) from rfl))
  refine va_ldcS hx hb S.2.2.2.1 z182 dL_law_295 ?_
  obtain ⟨q1, hq1, h⟩ := ob h
  refine lx_put hK hEx S hL hSx ⟨(Nat.le_of_ble_eq_true rfl), (Nat.le_of_ble_eq_true rfl)⟩ hl.1 (Nat.le_of_ble_eq_true rfl) ml_L_159 (lit_at t182 hL.2.2.2.2 hL.1) (fun P hA hn => c_L_put l P hA hn (asc rfl) wx hq1) ok_L_put rfl dL_law_297 ⟨(Nat.le_of_ble_eq_true rfl), (Nat.le_of_ble_eq_true rfl)⟩ (fun H locs hL => ?_)
  refine lv_aload_n hx hb dL_law_300 rfl (lv_at hl 1 rfl) ?_
  obtain ⟨q2, hq2, h⟩ := ob h
  refine lx_tab hK hEx S hL ⟨(Nat.le_of_ble_eq_true rfl), (Nat.le_of_ble_eq_true rfl)⟩ rfl hl.1 (Nat.le_of_ble_eq_true rfl) ml_L_173 (fun P hA hn => c_L_runs l P hA hn hst q1 hq2) ok_L_runs rfl dL_law_301 ⟨(Nat.le_of_ble_eq_true rfl), (Nat.le_of_ble_eq_true rfl)⟩ (fun H locs ho hL => ?_)
  refine lv_iconst (v := (-1)) hx hb dL_law_304 (by decide) ?_
  refine lv_icmp_ne (tgt := 316) hx hb dL_law_305 (by decide) (fun c3 => ?_) (fun c3 => ?_)
  · rw [if_neg c3] at h
    cases h
  · rw [if_pos c3] at h
    refine lv_aload_n hx hb dL_law_308 rfl (lv_at hl 1 rfl) ?_
    refine lx_call hK hEx S hL ⟨(Nat.le_of_ble_eq_true rfl), (Nat.le_of_ble_eq_true rfl)⟩ rfl hl.1 (Nat.le_of_ble_eq_true rfl) ml_L_165 (fun P hA hn => c_X5_errorPosition l P hA hn q2.2) ok_X5_errorPosition rfl rfl dL_law_309 ⟨(Nat.le_of_ble_eq_true rfl), (Nat.le_of_ble_eq_true rfl)⟩ (fun H locs ho hL => ?_)
    refine lv_iconst (v := (-1)) hx hb dL_law_312 (by decide) ?_
    refine lv_icmp_eq (tgt := 318) hx hb dL_law_313 (by decide) (fun c4 => ?_) (fun c4 => ?_)
    · rw [if_pos c4] at h
      obtain rfl := Option.some.inj h
      refine W.widen (k := 1213) (n := 9078) (Nat.le_of_ble_eq_true rfl) (Nat.le_of_ble_eq_true rfl) ?_
      exact K _ _ _ hL (lv_sub hl [0, 1, 2, 3, 4] rfl)
    · rw [if_neg c4] at h
      cases h
def F_S_H (wx : Wo) (x4 : Int32) : Option (Wo) := (F_L_faults wx [112, 97] 1).bind fun q1 => (if q1.1 = 0 then (none) else ((F_L_faults q1.2 [112, 48, 109] 2).bind fun q2 => (if q2.1 = 0 then (none) else ((F_L_faults q2.2 [116, 49, 50, 51, 52] 4).bind fun q3 => (if q3.1 = 0 then (none) else ((F_L_faults q3.2 [114, 53] 2).bind fun q4 => (if q4.1 = 0 then (none) else ((F_L_faults q4.2 [] 0).bind fun q5 => (if q5.1 = 0 then (none) else ((F_L_faults q5.2 [120, 48, 59] 3).bind fun q6 => (if q6.1 = 0 then (none) else ((F_L_faults q6.2 [103, 48, 109] 2).bind fun q7 => (if q7.1 = 0 then (none) else ((F_L_faults q7.2 [98, 51] 2).bind fun q8 => (if q8.1 = 0 then (none) else ((F_L_faults q8.2 [115, 48, 49, 50] 3).bind fun q9 => (if q9.1 = 0 then (none) else ((F_L_faults q9.2 [122] 0).bind fun q10 => (if q10.1 = 0 then (none) else ((nx (F_L_state q10.2)).bind fun q11 => (if q11.1 = x4 then (some q11.2) else (none))))))))))))))))))))))
set_option maxRecDepth 100000 in
set_option maxHeartbeats 8000000 in
theorem s_H {p : Program} {l : Launch} {e : Env} {s : State} {m : MethodId} {args : Array Value} {below : List Frame} {meth : Method} {c : Code} {Q : State → Prop} {b : Nat} {D : va_G} {cA : Nat → ClassId} {sa : Nat → Nat} {c0 : Cond} (hst : l.stackTraces = false) (hK : va_K D vc (tyl cA) s) (hEx : Ex (0, 0, s.heap.size) sa s) (hSx : SxA (A0 s.heap.size) s s.heap) (hLit : ∀ t ∈ lits, ∃ a v : Nat, vk_R RL t.1 t.2.1 a s ∧ TxA (A0 s.heap.size) a v t.2.2.length (txf t.2.2) s s.heap) (S : CallFix p m c cL_law 11 s args (c0 :: ALLW) RL) {lx ly : Nat} {wx wy : Wo} {x3 : Int32} {x4 : Int32} {x5 : Int32} {r : Wo} (h : F_S_H wx x4 = some r) (K : ∀ (H : Heap) (locs : List Loc) (ls : Array Slot), Two D cA s lx ly r wy H locs → lv_has ls 11 [(0, .ref b), (1, .ref lx), (3, .int x3), (4, .int x4), (5, .int x5)] → W p l e room_1 s m args below meth c H locs 1223 9138 Q (F0 m 429 ls [])) (H : Heap) (locs : List Loc) (ls : Array Slot) (hL : Two D cA s lx ly wx wy H locs) (hl : lv_has ls 11 [(0, .ref b), (1, .ref lx), (3, .int x3), (4, .int x4), (5, .int x5)]) : W p l e room_1 s m args below meth c H locs 1213 9078 Q (F0 m 318 ls []) := by
  have hx := S.1
  have hb := S.2.1
  unfold F_S_H at h
  refine lv_aload_n hx hb dL_law_318 rfl (lv_at hl 1 rfl) ?_
  obtain ⟨a184, v184, z184, t184⟩ := hLit _ (List.mem_of_getElem? (show lits[5]? = some (184, "pa", [112, 97]) from rfl))
  refine va_ldcS hx hb S.2.2.2.1 z184 dL_law_319 ?_
  refine lv_iconst (v := 1) hx hb dL_law_321 (by decide) ?_
  obtain ⟨q1, hq1, h⟩ := ob h
  refine lx_flt hK hEx S hL hSx ⟨(Nat.le_of_ble_eq_true rfl), (Nat.le_of_ble_eq_true rfl)⟩ hl.1 (Nat.le_of_ble_eq_true rfl) ml_L_186 (lit_at t184 hL.2.2.2.2 hL.1) (fun P hA hn => c_L_faults l P hA hn hst (asc rfl) wx 1 hq1) ok_L_faults rfl dL_law_322 ⟨(Nat.le_of_ble_eq_true rfl), (Nat.le_of_ble_eq_true rfl)⟩ (fun H locs ho hL => ?_)
  refine lv_if_eq (tgt := 427) hx hb dL_law_325 (by decide) (fun c12 => ?_) (fun c12 => ?_)
  · rw [if_pos c12] at h
    cases h
  · rw [if_neg c12] at h
    refine lv_aload_n hx hb dL_law_328 rfl (lv_at hl 1 rfl) ?_
    obtain ⟨a190, v190, z190, t190⟩ := hLit _ (List.mem_of_getElem? (show lits[6]? = some (190, "p0m", [112, 48, 109]) from rfl))
    refine va_ldcS hx hb S.2.2.2.1 z190 dL_law_329 ?_
    refine lv_iconst (v := 2) hx hb dL_law_331 (by decide) ?_
    obtain ⟨q2, hq2, h⟩ := ob h
    refine lx_flt hK hEx S hL hSx ⟨(Nat.le_of_ble_eq_true rfl), (Nat.le_of_ble_eq_true rfl)⟩ hl.1 (Nat.le_of_ble_eq_true rfl) ml_L_186 (lit_at t190 hL.2.2.2.2 hL.1) (fun P hA hn => c_L_faults l P hA hn hst (asc rfl) q1.2 2 hq2) ok_L_faults rfl dL_law_332 ⟨(Nat.le_of_ble_eq_true rfl), (Nat.le_of_ble_eq_true rfl)⟩ (fun H locs ho hL => ?_)
    refine lv_if_eq (tgt := 427) hx hb dL_law_335 (by decide) (fun c13 => ?_) (fun c13 => ?_)
    · rw [if_pos c13] at h
      cases h
    · rw [if_neg c13] at h
      refine lv_aload_n hx hb dL_law_338 rfl (lv_at hl 1 rfl) ?_
      obtain ⟨a192, v192, z192, t192⟩ := hLit _ (List.mem_of_getElem? (show lits[7]? = some (192, "t1234", [116, 49, 50, 51, 52]) from rfl))
      refine va_ldcS hx hb S.2.2.2.1 z192 dL_law_339 ?_
      refine lv_iconst (v := 4) hx hb dL_law_341 (by decide) ?_
      obtain ⟨q3, hq3, h⟩ := ob h
      refine lx_flt hK hEx S hL hSx ⟨(Nat.le_of_ble_eq_true rfl), (Nat.le_of_ble_eq_true rfl)⟩ hl.1 (Nat.le_of_ble_eq_true rfl) ml_L_186 (lit_at t192 hL.2.2.2.2 hL.1) (fun P hA hn => c_L_faults l P hA hn hst (asc rfl) q2.2 4 hq3) ok_L_faults rfl dL_law_342 ⟨(Nat.le_of_ble_eq_true rfl), (Nat.le_of_ble_eq_true rfl)⟩ (fun H locs ho hL => ?_)
      refine lv_if_eq (tgt := 427) hx hb dL_law_345 (by decide) (fun c14 => ?_) (fun c14 => ?_)
      · rw [if_pos c14] at h
        cases h
      · rw [if_neg c14] at h
        refine lv_aload_n hx hb dL_law_348 rfl (lv_at hl 1 rfl) ?_
        obtain ⟨a194, v194, z194, t194⟩ := hLit _ (List.mem_of_getElem? (show lits[8]? = some (194, "r5", [114, 53]) from rfl))
        refine va_ldcS hx hb S.2.2.2.1 z194 dL_law_349 ?_
        refine lv_iconst (v := 2) hx hb dL_law_351 (by decide) ?_
        obtain ⟨q4, hq4, h⟩ := ob h
        refine lx_flt hK hEx S hL hSx ⟨(Nat.le_of_ble_eq_true rfl), (Nat.le_of_ble_eq_true rfl)⟩ hl.1 (Nat.le_of_ble_eq_true rfl) ml_L_186 (lit_at t194 hL.2.2.2.2 hL.1) (fun P hA hn => c_L_faults l P hA hn hst (asc rfl) q3.2 2 hq4) ok_L_faults rfl dL_law_352 ⟨(Nat.le_of_ble_eq_true rfl), (Nat.le_of_ble_eq_true rfl)⟩ (fun H locs ho hL => ?_)
        refine lv_if_eq (tgt := 427) hx hb dL_law_355 (by decide) (fun c15 => ?_) (fun c15 => ?_)
        · rw [if_pos c15] at h
          cases h
        · rw [if_neg c15] at h
          refine lv_aload_n hx hb dL_law_358 rfl (lv_at hl 1 rfl) ?_
          obtain ⟨a85, v85, z85, t85⟩ := hLit _ (List.mem_of_getElem? (show lits[9]? = some (85, "", []) from rfl))
          refine va_ldcS hx hb S.2.2.2.1 z85 dL_law_359 ?_
          refine lv_iconst (v := 0) hx hb dL_law_361 (by decide) ?_
          obtain ⟨q5, hq5, h⟩ := ob h
          refine lx_flt hK hEx S hL hSx ⟨(Nat.le_of_ble_eq_true rfl), (Nat.le_of_ble_eq_true rfl)⟩ hl.1 (Nat.le_of_ble_eq_true rfl) ml_L_186 (lit_at t85 hL.2.2.2.2 hL.1) (fun P hA hn => c_L_faults l P hA hn hst (asc rfl) q4.2 0 hq5) ok_L_faults rfl dL_law_362 ⟨(Nat.le_of_ble_eq_true rfl), (Nat.le_of_ble_eq_true rfl)⟩ (fun H locs ho hL => ?_)
          refine lv_if_eq (tgt := 427) hx hb dL_law_365 (by decide) (fun c16 => ?_) (fun c16 => ?_)
          · rw [if_pos c16] at h
            cases h
          · rw [if_neg c16] at h
            refine lv_aload_n hx hb dL_law_368 rfl (lv_at hl 1 rfl) ?_
            obtain ⟨a196, v196, z196, t196⟩ := hLit _ (List.mem_of_getElem? (show lits[10]? = some (196, "x0;", [120, 48, 59]) from rfl))
            refine va_ldcS hx hb S.2.2.2.1 z196 dL_law_369 ?_
            refine lv_iconst (v := 3) hx hb dL_law_371 (by decide) ?_
            obtain ⟨q6, hq6, h⟩ := ob h
            refine lx_flt hK hEx S hL hSx ⟨(Nat.le_of_ble_eq_true rfl), (Nat.le_of_ble_eq_true rfl)⟩ hl.1 (Nat.le_of_ble_eq_true rfl) ml_L_186 (lit_at t196 hL.2.2.2.2 hL.1) (fun P hA hn => c_L_faults l P hA hn hst (asc rfl) q5.2 3 hq6) ok_L_faults rfl dL_law_372 ⟨(Nat.le_of_ble_eq_true rfl), (Nat.le_of_ble_eq_true rfl)⟩ (fun H locs ho hL => ?_)
            refine lv_if_eq (tgt := 427) hx hb dL_law_375 (by decide) (fun c17 => ?_) (fun c17 => ?_)
            · rw [if_pos c17] at h
              cases h
            · rw [if_neg c17] at h
              refine lv_aload_n hx hb dL_law_378 rfl (lv_at hl 1 rfl) ?_
              obtain ⟨a198, v198, z198, t198⟩ := hLit _ (List.mem_of_getElem? (show lits[11]? = some (198, "g0m", [103, 48, 109]) from rfl))
              refine va_ldcS hx hb S.2.2.2.1 z198 dL_law_379 ?_
              refine lv_iconst (v := 2) hx hb dL_law_381 (by decide) ?_
              obtain ⟨q7, hq7, h⟩ := ob h
              refine lx_flt hK hEx S hL hSx ⟨(Nat.le_of_ble_eq_true rfl), (Nat.le_of_ble_eq_true rfl)⟩ hl.1 (Nat.le_of_ble_eq_true rfl) ml_L_186 (lit_at t198 hL.2.2.2.2 hL.1) (fun P hA hn => c_L_faults l P hA hn hst (asc rfl) q6.2 2 hq7) ok_L_faults rfl dL_law_382 ⟨(Nat.le_of_ble_eq_true rfl), (Nat.le_of_ble_eq_true rfl)⟩ (fun H locs ho hL => ?_)
              refine lv_if_eq (tgt := 427) hx hb dL_law_385 (by decide) (fun c18 => ?_) (fun c18 => ?_)
              · rw [if_pos c18] at h
                cases h
              · rw [if_neg c18] at h
                refine lv_aload_n hx hb dL_law_388 rfl (lv_at hl 1 rfl) ?_
                obtain ⟨a200, v200, z200, t200⟩ := hLit _ (List.mem_of_getElem? (show lits[12]? = some (200, "b3", [98, 51]) from rfl))
                refine va_ldcS hx hb S.2.2.2.1 z200 dL_law_389 ?_
                refine lv_iconst (v := 2) hx hb dL_law_391 (by decide) ?_
                obtain ⟨q8, hq8, h⟩ := ob h
                refine lx_flt hK hEx S hL hSx ⟨(Nat.le_of_ble_eq_true rfl), (Nat.le_of_ble_eq_true rfl)⟩ hl.1 (Nat.le_of_ble_eq_true rfl) ml_L_186 (lit_at t200 hL.2.2.2.2 hL.1) (fun P hA hn => c_L_faults l P hA hn hst (asc rfl) q7.2 2 hq8) ok_L_faults rfl dL_law_392 ⟨(Nat.le_of_ble_eq_true rfl), (Nat.le_of_ble_eq_true rfl)⟩ (fun H locs ho hL => ?_)
                refine lv_if_eq (tgt := 427) hx hb dL_law_395 (by decide) (fun c19 => ?_) (fun c19 => ?_)
                · rw [if_pos c19] at h
                  cases h
                · rw [if_neg c19] at h
                  refine lv_aload_n hx hb dL_law_398 rfl (lv_at hl 1 rfl) ?_
                  obtain ⟨a202, v202, z202, t202⟩ := hLit _ (List.mem_of_getElem? (show lits[13]? = some (202, "s012", [115, 48, 49, 50]) from rfl))
                  refine va_ldcS hx hb S.2.2.2.1 z202 dL_law_399 ?_
                  refine lv_iconst (v := 3) hx hb dL_law_401 (by decide) ?_
                  obtain ⟨q9, hq9, h⟩ := ob h
                  refine lx_flt hK hEx S hL hSx ⟨(Nat.le_of_ble_eq_true rfl), (Nat.le_of_ble_eq_true rfl)⟩ hl.1 (Nat.le_of_ble_eq_true rfl) ml_L_186 (lit_at t202 hL.2.2.2.2 hL.1) (fun P hA hn => c_L_faults l P hA hn hst (asc rfl) q8.2 3 hq9) ok_L_faults rfl dL_law_402 ⟨(Nat.le_of_ble_eq_true rfl), (Nat.le_of_ble_eq_true rfl)⟩ (fun H locs ho hL => ?_)
                  refine lv_if_eq (tgt := 427) hx hb dL_law_405 (by decide) (fun c20 => ?_) (fun c20 => ?_)
                  · rw [if_pos c20] at h
                    cases h
                  · rw [if_neg c20] at h
                    refine lv_aload_n hx hb dL_law_408 rfl (lv_at hl 1 rfl) ?_
                    obtain ⟨a204, v204, z204, t204⟩ := hLit _ (List.mem_of_getElem? (show lits[14]? = some (204, "z", [122]) from rfl))
                    refine va_ldcS hx hb S.2.2.2.1 z204 dL_law_409 ?_
                    refine lv_iconst (v := 0) hx hb dL_law_411 (by decide) ?_
                    obtain ⟨q10, hq10, h⟩ := ob h
                    refine lx_flt hK hEx S hL hSx ⟨(Nat.le_of_ble_eq_true rfl), (Nat.le_of_ble_eq_true rfl)⟩ hl.1 (Nat.le_of_ble_eq_true rfl) ml_L_186 (lit_at t204 hL.2.2.2.2 hL.1) (fun P hA hn => c_L_faults l P hA hn hst (asc rfl) q9.2 0 hq10) ok_L_faults rfl dL_law_412 ⟨(Nat.le_of_ble_eq_true rfl), (Nat.le_of_ble_eq_true rfl)⟩ (fun H locs ho hL => ?_)
                    refine lv_if_eq (tgt := 427) hx hb dL_law_415 (by decide) (fun c21 => ?_) (fun c21 => ?_)
                    · rw [if_pos c21] at h
                      cases h
                    · rw [if_neg c21] at h
                      refine lv_aload_n hx hb dL_law_418 rfl (lv_at hl 1 rfl) ?_
                      obtain ⟨q11, hq11, h⟩ := ob h
                      refine lx_stat hK hEx S hL ⟨(Nat.le_of_ble_eq_true rfl), (Nat.le_of_ble_eq_true rfl)⟩ rfl hl.1 (Nat.le_of_ble_eq_true rfl) ml_L_148 (fun P hA hn => n_L_state l P hA hn q10.2 (nx_some hq11)) ok_L_state rfl dL_law_419 ⟨(Nat.le_of_ble_eq_true rfl), (Nat.le_of_ble_eq_true rfl)⟩ (fun H locs ho hL => ?_)
                      refine lv_iload hx hb dL_law_422 (lv_at hl 3 rfl) ?_
                      refine lv_icmp_eq (tgt := 429) hx hb dL_law_424 (by decide) (fun c22 => ?_) (fun c22 => ?_)
                      · rw [if_pos c22] at h
                        obtain rfl := Option.some.inj h
                        refine W.widen (k := 1223) (n := 9138) (Nat.le_of_ble_eq_true rfl) (Nat.le_of_ble_eq_true rfl) ?_
                        exact K _ _ _ hL (lv_sub hl [0, 1, 2, 3, 4] rfl)
                      · rw [if_neg c22] at h
                        cases h
def F_S_Z1 (wy : Wo) : Option (Wo) := (nx (F_X5_away wy 0)).bind fun q1 => (if q1.1 = 0 then ((nx (F_X5_away q1.2 1)).bind fun q2 => (if q2.1 = 0 then ((F_X5_isOut q2.2).bind fun q3 => (if q3 = 0 then ((nx (F_X5_isOdd q2.2 0)).bind fun q4 => (if q4.1 = 0 then ((F_X5_home q4.2).bind fun q5 => (if q5 = (9 : Int32) then ((F_L_act q4.2 7 0 0 32).bind fun q6 => (if q6.1 = ((-2) : Int32) then ((nx (F_X5_refusal q6.2 0)).bind fun q7 => (if q7.1 = (5 : Int32) then ((nx (F_X5_refusal q7.2 1)).bind fun q8 => (if q8.1 = (9 : Int32) then ((nx (F_X5_account q8.2 6)).bind fun q9 => (if q9.1 = 0 then (some q9.2) else (none))) else (none))) else (none))) else (none))) else (none))) else (none))) else (none))) else (none))) else (none))
set_option maxRecDepth 100000 in
set_option maxHeartbeats 8000000 in
theorem s_Z1 {p : Program} {l : Launch} {e : Env} {s : State} {m : MethodId} {args : Array Value} {below : List Frame} {meth : Method} {c : Code} {Q : State → Prop} {b : Nat} {D : va_G} {cA : Nat → ClassId} {sa : Nat → Nat} {c0 : Cond} (hst : l.stackTraces = false) (hK : va_K D vc (tyl cA) s) (hEx : Ex (0, 0, s.heap.size) sa s) (hSx : SxA (A0 s.heap.size) s s.heap) (hLit : ∀ t ∈ lits, ∃ a v : Nat, vk_R RL t.1 t.2.1 a s ∧ TxA (A0 s.heap.size) a v t.2.2.length (txf t.2.2) s s.heap) (S : CallFix p m c cL_law 11 s args (c0 :: ALLW) RL) {lx ly : Nat} {wx wy : Wo} {x3 : Int32} {x4 : Int32} {x9 : Int32} {r : Wo} (h : F_S_Z1 wy = some r) (K : ∀ (H : Heap) (locs : List Loc) (ls : Array Slot), Two D cA s lx ly wx r H locs → lv_has ls 11 [(0, .ref b), (1, .ref lx), (3, .int x3), (4, .int x4), (9, .int x9), (10, .ref ly)] → W p l e room_1 s m args below meth c H locs 1302 9912 Q (F0 m 542 ls [])) (H : Heap) (locs : List Loc) (ls : Array Slot) (hL : Two D cA s lx ly wx wy H locs) (hl : lv_has ls 11 [(0, .ref b), (1, .ref lx), (3, .int x3), (4, .int x4), (9, .int x9), (10, .ref ly)]) : W p l e room_1 s m args below meth c H locs 1300 9900 Q (F0 m 448 ls []) := by
  have hx := S.1
  have hb := S.2.1
  unfold F_S_Z1 at h
  refine lv_aload hx hb dL_law_448 (lv_at hl 5 rfl) ?_
  refine lv_iconst (v := 0) hx hb dL_law_450 (by decide) ?_
  obtain ⟨q1, hq1, h⟩ := ob h
  refine ly_call hK hEx S hL ⟨(Nat.le_of_ble_eq_true rfl), (Nat.le_of_ble_eq_true rfl)⟩ rfl hl.1 (Nat.le_of_ble_eq_true rfl) ml_L_206 (fun P hA hn => n_X5_away l P hA hn wy 0 (nx_some hq1)) ok_X5_away rfl rfl dL_law_451 ⟨(Nat.le_of_ble_eq_true rfl), (Nat.le_of_ble_eq_true rfl)⟩ (fun H locs ho hL => ?_)
  refine lv_if_ne (tgt := 540) hx hb dL_law_454 (by decide) (fun c10 => ?_) (fun c10 => ?_)
  · rw [if_neg c10] at h
    cases h
  · rw [if_pos c10] at h
    refine lv_aload hx hb dL_law_457 (lv_at hl 5 rfl) ?_
    refine lv_iconst (v := 1) hx hb dL_law_459 (by decide) ?_
    obtain ⟨q2, hq2, h⟩ := ob h
    refine ly_call hK hEx S hL ⟨(Nat.le_of_ble_eq_true rfl), (Nat.le_of_ble_eq_true rfl)⟩ rfl hl.1 (Nat.le_of_ble_eq_true rfl) ml_L_206 (fun P hA hn => n_X5_away l P hA hn q1.2 1 (nx_some hq2)) ok_X5_away rfl rfl dL_law_460 ⟨(Nat.le_of_ble_eq_true rfl), (Nat.le_of_ble_eq_true rfl)⟩ (fun H locs ho hL => ?_)
    refine lv_if_ne (tgt := 540) hx hb dL_law_463 (by decide) (fun c11 => ?_) (fun c11 => ?_)
    · rw [if_neg c11] at h
      cases h
    · rw [if_pos c11] at h
      refine lv_aload hx hb dL_law_466 (lv_at hl 5 rfl) ?_
      obtain ⟨q3, hq3, h⟩ := ob h
      refine ly_call hK hEx S hL ⟨(Nat.le_of_ble_eq_true rfl), (Nat.le_of_ble_eq_true rfl)⟩ rfl hl.1 (Nat.le_of_ble_eq_true rfl) ml_L_208 (fun P hA hn => c_X5_isOut l P hA hn q2.2 hq3) ok_X5_isOut rfl rfl dL_law_468 ⟨(Nat.le_of_ble_eq_true rfl), (Nat.le_of_ble_eq_true rfl)⟩ (fun H locs ho hL => ?_)
      refine lv_if_ne (tgt := 540) hx hb dL_law_471 (by decide) (fun c12 => ?_) (fun c12 => ?_)
      · rw [if_neg c12] at h
        cases h
      · rw [if_pos c12] at h
        refine lv_aload hx hb dL_law_474 (lv_at hl 5 rfl) ?_
        refine lv_iconst (v := 0) hx hb dL_law_476 (by decide) ?_
        obtain ⟨q4, hq4, h⟩ := ob h
        refine ly_call hK hEx S hL ⟨(Nat.le_of_ble_eq_true rfl), (Nat.le_of_ble_eq_true rfl)⟩ rfl hl.1 (Nat.le_of_ble_eq_true rfl) ml_L_212 (fun P hA hn => n_X5_isOdd l P hA hn q2.2 0 (nx_some hq4)) ok_X5_isOdd rfl rfl dL_law_477 ⟨(Nat.le_of_ble_eq_true rfl), (Nat.le_of_ble_eq_true rfl)⟩ (fun H locs ho hL => ?_)
        refine lv_if_ne (tgt := 540) hx hb dL_law_480 (by decide) (fun c13 => ?_) (fun c13 => ?_)
        · rw [if_neg c13] at h
          cases h
        · rw [if_pos c13] at h
          refine lv_aload hx hb dL_law_483 (lv_at hl 5 rfl) ?_
          obtain ⟨q5, hq5, h⟩ := ob h
          refine ly_call hK hEx S hL ⟨(Nat.le_of_ble_eq_true rfl), (Nat.le_of_ble_eq_true rfl)⟩ rfl hl.1 (Nat.le_of_ble_eq_true rfl) ml_L_215 (fun P hA hn => c_X5_home l P hA hn q4.2 hq5) ok_X5_home rfl rfl dL_law_485 ⟨(Nat.le_of_ble_eq_true rfl), (Nat.le_of_ble_eq_true rfl)⟩ (fun H locs ho hL => ?_)
          refine lv_bipush (v := 9) hx hb dL_law_488 (by decide) ?_
          refine lv_icmp_ne (tgt := 540) hx hb dL_law_490 (by decide) (fun c14 => ?_) (fun c14 => ?_)
          · rw [if_neg c14] at h
            cases h
          · rw [if_pos c14] at h
            refine lv_aload hx hb dL_law_493 (lv_at hl 5 rfl) ?_
            refine lv_bipush (v := 7) hx hb dL_law_495 (by decide) ?_
            refine lv_iconst (v := 0) hx hb dL_law_497 (by decide) ?_
            refine lv_iconst (v := 0) hx hb dL_law_498 (by decide) ?_
            refine lv_bipush (v := 32) hx hb dL_law_499 (by decide) ?_
            obtain ⟨q6, hq6, h⟩ := ob h
            refine ly_tab hK hEx S hL ⟨(Nat.le_of_ble_eq_true rfl), (Nat.le_of_ble_eq_true rfl)⟩ rfl hl.1 (Nat.le_of_ble_eq_true rfl) ml_L_30 (fun P hA hn => c_L_act l P hA hn hst q4.2 7 0 0 32 hq6) ok_L_act rfl dL_law_501 ⟨(Nat.le_of_ble_eq_true rfl), (Nat.le_of_ble_eq_true rfl)⟩ (fun H locs ho hL => ?_)
            refine lv_bipush (v := (-2)) hx hb dL_law_504 (by decide) ?_
            refine lv_icmp_ne (tgt := 540) hx hb dL_law_506 (by decide) (fun c15 => ?_) (fun c15 => ?_)
            · rw [if_neg c15] at h
              cases h
            · rw [if_pos c15] at h
              refine lv_aload hx hb dL_law_509 (lv_at hl 5 rfl) ?_
              refine lv_iconst (v := 0) hx hb dL_law_511 (by decide) ?_
              obtain ⟨q7, hq7, h⟩ := ob h
              refine ly_call hK hEx S hL ⟨(Nat.le_of_ble_eq_true rfl), (Nat.le_of_ble_eq_true rfl)⟩ rfl hl.1 (Nat.le_of_ble_eq_true rfl) ml_L_176 (fun P hA hn => n_X5_refusal l P hA hn q6.2 0 (nx_some hq7)) ok_X5_refusal rfl rfl dL_law_512 ⟨(Nat.le_of_ble_eq_true rfl), (Nat.le_of_ble_eq_true rfl)⟩ (fun H locs ho hL => ?_)
              refine lv_iconst (v := 5) hx hb dL_law_515 (by decide) ?_
              refine lv_icmp_ne (tgt := 540) hx hb dL_law_516 (by decide) (fun c16 => ?_) (fun c16 => ?_)
              · rw [if_neg c16] at h
                cases h
              · rw [if_pos c16] at h
                refine lv_aload hx hb dL_law_519 (lv_at hl 5 rfl) ?_
                refine lv_iconst (v := 1) hx hb dL_law_521 (by decide) ?_
                obtain ⟨q8, hq8, h⟩ := ob h
                refine ly_call hK hEx S hL ⟨(Nat.le_of_ble_eq_true rfl), (Nat.le_of_ble_eq_true rfl)⟩ rfl hl.1 (Nat.le_of_ble_eq_true rfl) ml_L_176 (fun P hA hn => n_X5_refusal l P hA hn q7.2 1 (nx_some hq8)) ok_X5_refusal rfl rfl dL_law_522 ⟨(Nat.le_of_ble_eq_true rfl), (Nat.le_of_ble_eq_true rfl)⟩ (fun H locs ho hL => ?_)
                refine lv_bipush (v := 9) hx hb dL_law_525 (by decide) ?_
                refine lv_icmp_ne (tgt := 540) hx hb dL_law_527 (by decide) (fun c17 => ?_) (fun c17 => ?_)
                · rw [if_neg c17] at h
                  cases h
                · rw [if_pos c17] at h
                  refine lv_aload hx hb dL_law_530 (lv_at hl 5 rfl) ?_
                  refine lv_bipush (v := 6) hx hb dL_law_532 (by decide) ?_
                  obtain ⟨q9, hq9, h⟩ := ob h
                  refine ly_call hK hEx S hL ⟨(Nat.le_of_ble_eq_true rfl), (Nat.le_of_ble_eq_true rfl)⟩ rfl hl.1 (Nat.le_of_ble_eq_true rfl) ml_L_34 (fun P hA hn => n_X5_account l P hA hn q8.2 6 (nx_some hq9)) ok_X5_account rfl rfl dL_law_534 ⟨(Nat.le_of_ble_eq_true rfl), (Nat.le_of_ble_eq_true rfl)⟩ (fun H locs ho hL => ?_)
                  refine lv_if_eq (tgt := 542) hx hb dL_law_537 (by decide) (fun c18 => ?_) (fun c18 => ?_)
                  · rw [if_pos c18] at h
                    obtain rfl := Option.some.inj h
                    refine W.widen (k := 1302) (n := 9912) (Nat.le_of_ble_eq_true rfl) (Nat.le_of_ble_eq_true rfl) ?_
                    exact K _ _ _ hL (lv_sub hl [0, 1, 2, 3, 4, 5] rfl)
                  · rw [if_neg c18] at h
                    cases h
def F_S_Z2 (wy : Wo) : Option (Wo) := (nx (F_X5_turn wy 0)).bind fun q1 => (if q1.1 = (6 : Int32) then ((F_X5_text q1.2).bind fun q2 => ((F_L_isLine q2.2 q2.1 [99, 97, 98, 47, 100, 101, 102, 47, 103, 104, 105]).bind fun q3 => (if q3.1 = 0 then (none) else ((nx (F_X5_away q3.2 0)).bind fun q4 => (if q4.1 = (1 : Int32) then ((nx (F_X5_firstTurn q4.2)).bind fun q5 => (if q5.1 = (1 : Int32) then ((nx (F_X5_best q5.2)).bind fun q6 => (if q6.1 = (1 : Int32) then ((nx (F_X5_would q6.2 1)).bind fun q7 => (if q7.1 = (9 : Int32) then ((nx (F_X5_bar q7.2 0)).bind fun q8 => (if q8.1 = 0 then (none) else ((F_L_act q8.2 7 0 0 32).bind fun q9 => (if q9.1 = ((-3) : Int32) then ((F_L_act q9.2 3 0 0 32).bind fun q10 => (if q10.1 = ((-2) : Int32) then ((nx (F_X5_refusal q10.2 0)).bind fun q11 => (if q11.1 = (1 : Int32) then ((nx (F_X5_refusal q11.2 1)).bind fun q12 => (if q12.1 = 0 then ((nx (F_X5_bar q12.2 0)).bind fun q13 => (if q13.1 = 0 then ((nx (F_X5_step q13.2)).bind fun q14 => (if q14.1 = (1 : Int32) then ((F_X5_home q14.2).bind fun q15 => (if q15 = (9 : Int32) then ((nx (F_X5_account q14.2 5)).bind fun q16 => (if q16.1 = (1 : Int32) then ((nx (F_X5_account q16.2 2)).bind fun q17 => (if q17.1 = (2 : Int32) then ((nx (F_X5_account q17.2 7)).bind fun q18 => (if q18.1 = (1 : Int32) then (some q18.2) else (none))) else (none))) else (none))) else (none))) else (none))) else (none))) else (none))) else (none))) else (none))) else (none))))) else (none))) else (none))) else (none))) else (none)))))) else (none))
set_option maxRecDepth 100000 in
set_option maxHeartbeats 8000000 in
theorem s_Z2 {p : Program} {l : Launch} {e : Env} {s : State} {m : MethodId} {args : Array Value} {below : List Frame} {meth : Method} {c : Code} {Q : State → Prop} {b : Nat} {D : va_G} {cA : Nat → ClassId} {sa : Nat → Nat} {c0 : Cond} (hst : l.stackTraces = false) (hK : va_K D vc (tyl cA) s) (hEx : Ex (0, 0, s.heap.size) sa s) (hSx : SxA (A0 s.heap.size) s s.heap) (hLit : ∀ t ∈ lits, ∃ a v : Nat, vk_R RL t.1 t.2.1 a s ∧ TxA (A0 s.heap.size) a v t.2.2.length (txf t.2.2) s s.heap) (S : CallFix p m c cL_law 11 s args (c0 :: ALLW) RL) {lx ly : Nat} {wx wy : Wo} {x3 : Int32} {x4 : Int32} {x9 : Int32} {r : Wo} (h : F_S_Z2 wy = some r) (K : ∀ (H : Heap) (locs : List Loc) (ls : Array Slot), Two D cA s lx ly wx r H locs → lv_has ls 11 [(0, .ref b), (1, .ref lx), (3, .int x3), (4, .int x4), (9, .int x9), (10, .ref ly)] → W p l e room_1 s m args below meth c H locs 1306 9936 Q (F0 m 727 ls [])) (H : Heap) (locs : List Loc) (ls : Array Slot) (hL : Two D cA s lx ly wx wy H locs) (hl : lv_has ls 11 [(0, .ref b), (1, .ref lx), (3, .int x3), (4, .int x4), (9, .int x9), (10, .ref ly)]) : W p l e room_1 s m args below meth c H locs 1302 9912 Q (F0 m 542 ls []) := by
  have hx := S.1
  have hb := S.2.1
  unfold F_S_Z2 at h
  refine lv_aload hx hb dL_law_542 (lv_at hl 5 rfl) ?_
  refine lv_iconst (v := 0) hx hb dL_law_544 (by decide) ?_
  obtain ⟨q1, hq1, h⟩ := ob h
  refine ly_call hK hEx S hL ⟨(Nat.le_of_ble_eq_true rfl), (Nat.le_of_ble_eq_true rfl)⟩ rfl hl.1 (Nat.le_of_ble_eq_true rfl) ml_L_55 (fun P hA hn => n_X5_turn l P hA hn wy 0 (nx_some hq1)) ok_X5_turn rfl rfl dL_law_545 ⟨(Nat.le_of_ble_eq_true rfl), (Nat.le_of_ble_eq_true rfl)⟩ (fun H locs ho hL => ?_)
  refine lv_bipush (v := 6) hx hb dL_law_548 (by decide) ?_
  refine lv_icmp_ne (tgt := 725) hx hb dL_law_550 (by decide) (fun c19 => ?_) (fun c19 => ?_)
  · rw [if_neg c19] at h
    cases h
  · rw [if_pos c19] at h
    refine lv_aload hx hb dL_law_553 (lv_at hl 5 rfl) ?_
    refine lv_aload hx hb dL_law_555 (lv_at hl 5 rfl) ?_
    obtain ⟨q2, hq2, h⟩ := ob h
    refine ly_call hK hEx S hL ⟨(Nat.le_of_ble_eq_true rfl), (Nat.le_of_ble_eq_true rfl)⟩ rfl hl.1 (Nat.le_of_ble_eq_true rfl) ml_L_217 (fun P hA hn => c_X5_text l P hA hn q1.2 hq2) ok_X5_text rfl rfl dL_law_557 ⟨(Nat.le_of_ble_eq_true rfl), (Nat.le_of_ble_eq_true rfl)⟩ (fun H locs ho hL => ?_)
    obtain ⟨a220, v220, z220, t220⟩ := hLit _ (List.mem_of_getElem? (show lits[15]? = some (220, "cab/def/ghi", [99, 97, 98, 47, 100, 101, 102, 47, 103, 104, 105]) from rfl))
    refine va_ldcS hx hb S.2.2.2.1 z220 dL_law_560 ?_
    obtain ⟨q3, hq3, h⟩ := ob h
    refine ly_line hK hEx S hL hSx ⟨(Nat.le_of_ble_eq_true rfl), (Nat.le_of_ble_eq_true rfl)⟩ hl.1 (Nat.le_of_ble_eq_true rfl) ml_L_222 (lit_at t220 hL.2.2.2.2 (Nat.le_trans hL.1 (Nat.le_trans (Nat.le_add_right _ _) hL.2.1))) (fun P hA hn => c_L_isLine l P hA hn (asc rfl) q2.2 q2.1 hq3) ok_L_isLine rfl dL_law_562 ⟨(Nat.le_of_ble_eq_true rfl), (Nat.le_of_ble_eq_true rfl)⟩ (fun H locs ho hL => ?_)
    refine lv_if_eq (tgt := 725) hx hb dL_law_565 (by decide) (fun c20 => ?_) (fun c20 => ?_)
    · rw [if_pos c20] at h
      cases h
    · rw [if_neg c20] at h
      refine lv_aload hx hb dL_law_568 (lv_at hl 5 rfl) ?_
      refine lv_iconst (v := 0) hx hb dL_law_570 (by decide) ?_
      obtain ⟨q4, hq4, h⟩ := ob h
      refine ly_call hK hEx S hL ⟨(Nat.le_of_ble_eq_true rfl), (Nat.le_of_ble_eq_true rfl)⟩ rfl hl.1 (Nat.le_of_ble_eq_true rfl) ml_L_206 (fun P hA hn => n_X5_away l P hA hn q3.2 0 (nx_some hq4)) ok_X5_away rfl rfl dL_law_571 ⟨(Nat.le_of_ble_eq_true rfl), (Nat.le_of_ble_eq_true rfl)⟩ (fun H locs ho hL => ?_)
      refine lv_iconst (v := 1) hx hb dL_law_574 (by decide) ?_
      refine lv_icmp_ne (tgt := 725) hx hb dL_law_575 (by decide) (fun c21 => ?_) (fun c21 => ?_)
      · rw [if_neg c21] at h
        cases h
      · rw [if_pos c21] at h
        refine lv_aload hx hb dL_law_578 (lv_at hl 5 rfl) ?_
        obtain ⟨q5, hq5, h⟩ := ob h
        refine ly_call hK hEx S hL ⟨(Nat.le_of_ble_eq_true rfl), (Nat.le_of_ble_eq_true rfl)⟩ rfl hl.1 (Nat.le_of_ble_eq_true rfl) ml_L_226 (fun P hA hn => n_X5_firstTurn l P hA hn q4.2 (nx_some hq5)) ok_X5_firstTurn rfl rfl dL_law_580 ⟨(Nat.le_of_ble_eq_true rfl), (Nat.le_of_ble_eq_true rfl)⟩ (fun H locs ho hL => ?_)
        refine lv_iconst (v := 1) hx hb dL_law_583 (by decide) ?_
        refine lv_icmp_ne (tgt := 725) hx hb dL_law_584 (by decide) (fun c22 => ?_) (fun c22 => ?_)
        · rw [if_neg c22] at h
          cases h
        · rw [if_pos c22] at h
          refine lv_aload hx hb dL_law_587 (lv_at hl 5 rfl) ?_
          obtain ⟨q6, hq6, h⟩ := ob h
          refine ly_call hK hEx S hL ⟨(Nat.le_of_ble_eq_true rfl), (Nat.le_of_ble_eq_true rfl)⟩ rfl hl.1 (Nat.le_of_ble_eq_true rfl) ml_L_229 (fun P hA hn => n_X5_best l P hA hn q5.2 (nx_some hq6)) ok_X5_best rfl rfl dL_law_589 ⟨(Nat.le_of_ble_eq_true rfl), (Nat.le_of_ble_eq_true rfl)⟩ (fun H locs ho hL => ?_)
          refine lv_iconst (v := 1) hx hb dL_law_592 (by decide) ?_
          refine lv_icmp_ne (tgt := 725) hx hb dL_law_593 (by decide) (fun c23 => ?_) (fun c23 => ?_)
          · rw [if_neg c23] at h
            cases h
          · rw [if_pos c23] at h
            refine lv_aload hx hb dL_law_596 (lv_at hl 5 rfl) ?_
            refine lv_iconst (v := 1) hx hb dL_law_598 (by decide) ?_
            obtain ⟨q7, hq7, h⟩ := ob h
            refine ly_call hK hEx S hL ⟨(Nat.le_of_ble_eq_true rfl), (Nat.le_of_ble_eq_true rfl)⟩ rfl hl.1 (Nat.le_of_ble_eq_true rfl) ml_L_232 (fun P hA hn => n_X5_would l P hA hn q6.2 1 (nx_some hq7)) ok_X5_would rfl rfl dL_law_599 ⟨(Nat.le_of_ble_eq_true rfl), (Nat.le_of_ble_eq_true rfl)⟩ (fun H locs ho hL => ?_)
            refine lv_bipush (v := 9) hx hb dL_law_602 (by decide) ?_
            refine lv_icmp_ne (tgt := 725) hx hb dL_law_604 (by decide) (fun c24 => ?_) (fun c24 => ?_)
            · rw [if_neg c24] at h
              cases h
            · rw [if_pos c24] at h
              refine lv_aload hx hb dL_law_607 (lv_at hl 5 rfl) ?_
              refine lv_iconst (v := 0) hx hb dL_law_609 (by decide) ?_
              obtain ⟨q8, hq8, h⟩ := ob h
              refine ly_call hK hEx S hL ⟨(Nat.le_of_ble_eq_true rfl), (Nat.le_of_ble_eq_true rfl)⟩ rfl hl.1 (Nat.le_of_ble_eq_true rfl) ml_L_61 (fun P hA hn => n_X5_bar l P hA hn q7.2 0 (nx_some hq8)) ok_X5_bar rfl rfl dL_law_610 ⟨(Nat.le_of_ble_eq_true rfl), (Nat.le_of_ble_eq_true rfl)⟩ (fun H locs ho hL => ?_)
              refine lv_if_eq (tgt := 725) hx hb dL_law_613 (by decide) (fun c25 => ?_) (fun c25 => ?_)
              · rw [if_pos c25] at h
                cases h
              · rw [if_neg c25] at h
                refine lv_aload hx hb dL_law_616 (lv_at hl 5 rfl) ?_
                refine lv_bipush (v := 7) hx hb dL_law_618 (by decide) ?_
                refine lv_iconst (v := 0) hx hb dL_law_620 (by decide) ?_
                refine lv_iconst (v := 0) hx hb dL_law_621 (by decide) ?_
                refine lv_bipush (v := 32) hx hb dL_law_622 (by decide) ?_
                obtain ⟨q9, hq9, h⟩ := ob h
                refine ly_tab hK hEx S hL ⟨(Nat.le_of_ble_eq_true rfl), (Nat.le_of_ble_eq_true rfl)⟩ rfl hl.1 (Nat.le_of_ble_eq_true rfl) ml_L_30 (fun P hA hn => c_L_act l P hA hn hst q8.2 7 0 0 32 hq9) ok_L_act rfl dL_law_624 ⟨(Nat.le_of_ble_eq_true rfl), (Nat.le_of_ble_eq_true rfl)⟩ (fun H locs ho hL => ?_)
                refine lv_bipush (v := (-3)) hx hb dL_law_627 (by decide) ?_
                refine lv_icmp_ne (tgt := 725) hx hb dL_law_629 (by decide) (fun c26 => ?_) (fun c26 => ?_)
                · rw [if_neg c26] at h
                  cases h
                · rw [if_pos c26] at h
                  refine lv_aload hx hb dL_law_632 (lv_at hl 5 rfl) ?_
                  refine lv_iconst (v := 3) hx hb dL_law_634 (by decide) ?_
                  refine lv_iconst (v := 0) hx hb dL_law_635 (by decide) ?_
                  refine lv_iconst (v := 0) hx hb dL_law_636 (by decide) ?_
                  refine lv_bipush (v := 32) hx hb dL_law_637 (by decide) ?_
                  obtain ⟨q10, hq10, h⟩ := ob h
                  refine ly_tab hK hEx S hL ⟨(Nat.le_of_ble_eq_true rfl), (Nat.le_of_ble_eq_true rfl)⟩ rfl hl.1 (Nat.le_of_ble_eq_true rfl) ml_L_30 (fun P hA hn => c_L_act l P hA hn hst q9.2 3 0 0 32 hq10) ok_L_act rfl dL_law_639 ⟨(Nat.le_of_ble_eq_true rfl), (Nat.le_of_ble_eq_true rfl)⟩ (fun H locs ho hL => ?_)
                  refine lv_bipush (v := (-2)) hx hb dL_law_642 (by decide) ?_
                  refine lv_icmp_ne (tgt := 725) hx hb dL_law_644 (by decide) (fun c27 => ?_) (fun c27 => ?_)
                  · rw [if_neg c27] at h
                    cases h
                  · rw [if_pos c27] at h
                    refine lv_aload hx hb dL_law_647 (lv_at hl 5 rfl) ?_
                    refine lv_iconst (v := 0) hx hb dL_law_649 (by decide) ?_
                    obtain ⟨q11, hq11, h⟩ := ob h
                    refine ly_call hK hEx S hL ⟨(Nat.le_of_ble_eq_true rfl), (Nat.le_of_ble_eq_true rfl)⟩ rfl hl.1 (Nat.le_of_ble_eq_true rfl) ml_L_176 (fun P hA hn => n_X5_refusal l P hA hn q10.2 0 (nx_some hq11)) ok_X5_refusal rfl rfl dL_law_650 ⟨(Nat.le_of_ble_eq_true rfl), (Nat.le_of_ble_eq_true rfl)⟩ (fun H locs ho hL => ?_)
                    refine lv_iconst (v := 1) hx hb dL_law_653 (by decide) ?_
                    refine lv_icmp_ne (tgt := 725) hx hb dL_law_654 (by decide) (fun c28 => ?_) (fun c28 => ?_)
                    · rw [if_neg c28] at h
                      cases h
                    · rw [if_pos c28] at h
                      refine lv_aload hx hb dL_law_657 (lv_at hl 5 rfl) ?_
                      refine lv_iconst (v := 1) hx hb dL_law_659 (by decide) ?_
                      obtain ⟨q12, hq12, h⟩ := ob h
                      refine ly_call hK hEx S hL ⟨(Nat.le_of_ble_eq_true rfl), (Nat.le_of_ble_eq_true rfl)⟩ rfl hl.1 (Nat.le_of_ble_eq_true rfl) ml_L_176 (fun P hA hn => n_X5_refusal l P hA hn q11.2 1 (nx_some hq12)) ok_X5_refusal rfl rfl dL_law_660 ⟨(Nat.le_of_ble_eq_true rfl), (Nat.le_of_ble_eq_true rfl)⟩ (fun H locs ho hL => ?_)
                      refine lv_if_ne (tgt := 725) hx hb dL_law_663 (by decide) (fun c29 => ?_) (fun c29 => ?_)
                      · rw [if_neg c29] at h
                        cases h
                      · rw [if_pos c29] at h
                        refine lv_aload hx hb dL_law_666 (lv_at hl 5 rfl) ?_
                        refine lv_iconst (v := 0) hx hb dL_law_668 (by decide) ?_
                        obtain ⟨q13, hq13, h⟩ := ob h
                        refine ly_call hK hEx S hL ⟨(Nat.le_of_ble_eq_true rfl), (Nat.le_of_ble_eq_true rfl)⟩ rfl hl.1 (Nat.le_of_ble_eq_true rfl) ml_L_61 (fun P hA hn => n_X5_bar l P hA hn q12.2 0 (nx_some hq13)) ok_X5_bar rfl rfl dL_law_669 ⟨(Nat.le_of_ble_eq_true rfl), (Nat.le_of_ble_eq_true rfl)⟩ (fun H locs ho hL => ?_)
                        refine lv_if_ne (tgt := 725) hx hb dL_law_672 (by decide) (fun c30 => ?_) (fun c30 => ?_)
                        · rw [if_neg c30] at h
                          cases h
                        · rw [if_pos c30] at h
                          refine lv_aload hx hb dL_law_675 (lv_at hl 5 rfl) ?_
                          obtain ⟨q14, hq14, h⟩ := ob h
                          refine ly_call hK hEx S hL ⟨(Nat.le_of_ble_eq_true rfl), (Nat.le_of_ble_eq_true rfl)⟩ rfl hl.1 (Nat.le_of_ble_eq_true rfl) ml_L_68 (fun P hA hn => n_X5_step l P hA hn q13.2 (nx_some hq14)) ok_X5_step rfl rfl dL_law_677 ⟨(Nat.le_of_ble_eq_true rfl), (Nat.le_of_ble_eq_true rfl)⟩ (fun H locs ho hL => ?_)
                          refine lv_iconst (v := 1) hx hb dL_law_680 (by decide) ?_
                          refine lv_icmp_ne (tgt := 725) hx hb dL_law_681 (by decide) (fun c31 => ?_) (fun c31 => ?_)
                          · rw [if_neg c31] at h
                            cases h
                          · rw [if_pos c31] at h
                            refine lv_aload hx hb dL_law_684 (lv_at hl 5 rfl) ?_
                            obtain ⟨q15, hq15, h⟩ := ob h
                            refine ly_call hK hEx S hL ⟨(Nat.le_of_ble_eq_true rfl), (Nat.le_of_ble_eq_true rfl)⟩ rfl hl.1 (Nat.le_of_ble_eq_true rfl) ml_L_215 (fun P hA hn => c_X5_home l P hA hn q14.2 hq15) ok_X5_home rfl rfl dL_law_686 ⟨(Nat.le_of_ble_eq_true rfl), (Nat.le_of_ble_eq_true rfl)⟩ (fun H locs ho hL => ?_)
                            refine lv_bipush (v := 9) hx hb dL_law_689 (by decide) ?_
                            refine lv_icmp_ne (tgt := 725) hx hb dL_law_691 (by decide) (fun c32 => ?_) (fun c32 => ?_)
                            · rw [if_neg c32] at h
                              cases h
                            · rw [if_pos c32] at h
                              refine lv_aload hx hb dL_law_694 (lv_at hl 5 rfl) ?_
                              refine lv_iconst (v := 5) hx hb dL_law_696 (by decide) ?_
                              obtain ⟨q16, hq16, h⟩ := ob h
                              refine ly_call hK hEx S hL ⟨(Nat.le_of_ble_eq_true rfl), (Nat.le_of_ble_eq_true rfl)⟩ rfl hl.1 (Nat.le_of_ble_eq_true rfl) ml_L_34 (fun P hA hn => n_X5_account l P hA hn q14.2 5 (nx_some hq16)) ok_X5_account rfl rfl dL_law_697 ⟨(Nat.le_of_ble_eq_true rfl), (Nat.le_of_ble_eq_true rfl)⟩ (fun H locs ho hL => ?_)
                              refine lv_iconst (v := 1) hx hb dL_law_700 (by decide) ?_
                              refine lv_icmp_ne (tgt := 725) hx hb dL_law_701 (by decide) (fun c33 => ?_) (fun c33 => ?_)
                              · rw [if_neg c33] at h
                                cases h
                              · rw [if_pos c33] at h
                                refine lv_aload hx hb dL_law_704 (lv_at hl 5 rfl) ?_
                                refine lv_iconst (v := 2) hx hb dL_law_706 (by decide) ?_
                                obtain ⟨q17, hq17, h⟩ := ob h
                                refine ly_call hK hEx S hL ⟨(Nat.le_of_ble_eq_true rfl), (Nat.le_of_ble_eq_true rfl)⟩ rfl hl.1 (Nat.le_of_ble_eq_true rfl) ml_L_34 (fun P hA hn => n_X5_account l P hA hn q16.2 2 (nx_some hq17)) ok_X5_account rfl rfl dL_law_707 ⟨(Nat.le_of_ble_eq_true rfl), (Nat.le_of_ble_eq_true rfl)⟩ (fun H locs ho hL => ?_)
                                refine lv_iconst (v := 2) hx hb dL_law_710 (by decide) ?_
                                refine lv_icmp_ne (tgt := 725) hx hb dL_law_711 (by decide) (fun c34 => ?_) (fun c34 => ?_)
                                · rw [if_neg c34] at h
                                  cases h
                                · rw [if_pos c34] at h
                                  refine lv_aload hx hb dL_law_714 (lv_at hl 5 rfl) ?_
                                  refine lv_bipush (v := 7) hx hb dL_law_716 (by decide) ?_
                                  obtain ⟨q18, hq18, h⟩ := ob h
                                  refine ly_call hK hEx S hL ⟨(Nat.le_of_ble_eq_true rfl), (Nat.le_of_ble_eq_true rfl)⟩ rfl hl.1 (Nat.le_of_ble_eq_true rfl) ml_L_34 (fun P hA hn => n_X5_account l P hA hn q17.2 7 (nx_some hq18)) ok_X5_account rfl rfl dL_law_718 ⟨(Nat.le_of_ble_eq_true rfl), (Nat.le_of_ble_eq_true rfl)⟩ (fun H locs ho hL => ?_)
                                  refine lv_iconst (v := 1) hx hb dL_law_721 (by decide) ?_
                                  refine lv_icmp_eq (tgt := 727) hx hb dL_law_722 (by decide) (fun c35 => ?_) (fun c35 => ?_)
                                  · rw [if_pos c35] at h
                                    obtain rfl := Option.some.inj h
                                    refine W.widen (k := 1306) (n := 9936) (Nat.le_of_ble_eq_true rfl) (Nat.le_of_ble_eq_true rfl) ?_
                                    exact K _ _ _ hL (lv_sub hl [0, 1, 2, 3, 4, 5] rfl)
                                  · rw [if_neg c35] at h
                                    cases h
def F_S_Z3 (wy : Wo) : Option (Wo) := (nx (F_X5_swap wy 0 1)).bind fun q1 => (if q1.1 = (7 : Int32) then ((nx (F_X5_isOdd q1.2 1)).bind fun q2 => (if q2.1 = 0 then (none) else ((nx (F_X5_isOdd q2.2 0)).bind fun q3 => (if q3.1 = 0 then (none) else ((F_X5_isOut q3.2).bind fun q4 => (if q4 = 0 then (none) else ((F_L_act q3.2 7 0 0 32).bind fun q5 => (if q5.1 = ((-2) : Int32) then ((nx (F_X5_refusal q5.2 0)).bind fun q6 => (if q6.1 = (4 : Int32) then ((nx (F_X5_refusal q6.2 1)).bind fun q7 => (if q7.1 = (2 : Int32) then ((nx (F_X5_goal q7.2 0 46)).bind fun q8 => (if q8.1 = (97 : Int32) then ((F_X5_isOut q8.2).bind fun q9 => (if q9 = 0 then (none) else ((nx (F_X5_goal q8.2 1 46)).bind fun q10 => (if q10.1 = (98 : Int32) then ((F_X5_isOut q10.2).bind fun q11 => (if q11 = 0 then ((F_X5_home q10.2).bind fun q12 => (if q12 = (9 : Int32) then ((nx (F_X5_away q10.2 1)).bind fun q13 => (if q13.1 = 0 then ((nx (F_X5_boardOf q13.2 6)).bind fun q14 => (if q14.1 = (2 : Int32) then ((F_X5_goalText q14.2).bind fun q15 => ((F_L_isLine q15.2 q15.1 [46, 46, 99, 47, 100, 101, 102, 47, 103, 104, 105]).bind fun q16 => (if q16.1 = 0 then (none) else (some q16.2)))) else (none))) else (none))) else (none))) else (none))) else (none))))) else (none))) else (none))) else (none))) else (none))))))))) else (none))
set_option maxRecDepth 100000 in
set_option maxHeartbeats 8000000 in
theorem s_Z3 {p : Program} {l : Launch} {e : Env} {s : State} {m : MethodId} {args : Array Value} {below : List Frame} {meth : Method} {c : Code} {Q : State → Prop} {b : Nat} {D : va_G} {cA : Nat → ClassId} {sa : Nat → Nat} {c0 : Cond} (hst : l.stackTraces = false) (hK : va_K D vc (tyl cA) s) (hEx : Ex (0, 0, s.heap.size) sa s) (hSx : SxA (A0 s.heap.size) s s.heap) (hLit : ∀ t ∈ lits, ∃ a v : Nat, vk_R RL t.1 t.2.1 a s ∧ TxA (A0 s.heap.size) a v t.2.2.length (txf t.2.2) s s.heap) (S : CallFix p m c cL_law 11 s args (c0 :: ALLW) RL) {lx ly : Nat} {wx wy : Wo} {x3 : Int32} {x4 : Int32} {x9 : Int32} {r : Wo} (h : F_S_Z3 wy = some r) (K : ∀ (H : Heap) (locs : List Loc) (ls : Array Slot), Two D cA s lx ly wx r H locs → lv_has ls 11 [(0, .ref b), (1, .ref lx), (3, .int x3), (4, .int x4), (9, .int x9), (10, .ref ly)] → W p l e room_1 s m args below meth c H locs 1308 9948 Q (F0 m 890 ls [])) (H : Heap) (locs : List Loc) (ls : Array Slot) (hL : Two D cA s lx ly wx wy H locs) (hl : lv_has ls 11 [(0, .ref b), (1, .ref lx), (3, .int x3), (4, .int x4), (9, .int x9), (10, .ref ly)]) : W p l e room_1 s m args below meth c H locs 1306 9936 Q (F0 m 727 ls []) := by
  have hx := S.1
  have hb := S.2.1
  unfold F_S_Z3 at h
  refine lv_aload hx hb dL_law_727 (lv_at hl 5 rfl) ?_
  refine lv_iconst (v := 0) hx hb dL_law_729 (by decide) ?_
  refine lv_iconst (v := 1) hx hb dL_law_730 (by decide) ?_
  obtain ⟨q1, hq1, h⟩ := ob h
  refine ly_call hK hEx S hL ⟨(Nat.le_of_ble_eq_true rfl), (Nat.le_of_ble_eq_true rfl)⟩ rfl hl.1 (Nat.le_of_ble_eq_true rfl) ml_L_58 (fun P hA hn => n_X5_swap l P hA hn wy 0 1 (nx_some hq1)) ok_X5_swap rfl rfl dL_law_731 ⟨(Nat.le_of_ble_eq_true rfl), (Nat.le_of_ble_eq_true rfl)⟩ (fun H locs ho hL => ?_)
  refine lv_bipush (v := 7) hx hb dL_law_734 (by decide) ?_
  refine lv_icmp_ne (tgt := 888) hx hb dL_law_736 (by decide) (fun c17 => ?_) (fun c17 => ?_)
  · rw [if_neg c17] at h
    cases h
  · rw [if_pos c17] at h
    refine lv_aload hx hb dL_law_739 (lv_at hl 5 rfl) ?_
    refine lv_iconst (v := 1) hx hb dL_law_741 (by decide) ?_
    obtain ⟨q2, hq2, h⟩ := ob h
    refine ly_call hK hEx S hL ⟨(Nat.le_of_ble_eq_true rfl), (Nat.le_of_ble_eq_true rfl)⟩ rfl hl.1 (Nat.le_of_ble_eq_true rfl) ml_L_212 (fun P hA hn => n_X5_isOdd l P hA hn q1.2 1 (nx_some hq2)) ok_X5_isOdd rfl rfl dL_law_742 ⟨(Nat.le_of_ble_eq_true rfl), (Nat.le_of_ble_eq_true rfl)⟩ (fun H locs ho hL => ?_)
    refine lv_if_eq (tgt := 888) hx hb dL_law_745 (by decide) (fun c18 => ?_) (fun c18 => ?_)
    · rw [if_pos c18] at h
      cases h
    · rw [if_neg c18] at h
      refine lv_aload hx hb dL_law_748 (lv_at hl 5 rfl) ?_
      refine lv_iconst (v := 0) hx hb dL_law_750 (by decide) ?_
      obtain ⟨q3, hq3, h⟩ := ob h
      refine ly_call hK hEx S hL ⟨(Nat.le_of_ble_eq_true rfl), (Nat.le_of_ble_eq_true rfl)⟩ rfl hl.1 (Nat.le_of_ble_eq_true rfl) ml_L_212 (fun P hA hn => n_X5_isOdd l P hA hn q2.2 0 (nx_some hq3)) ok_X5_isOdd rfl rfl dL_law_751 ⟨(Nat.le_of_ble_eq_true rfl), (Nat.le_of_ble_eq_true rfl)⟩ (fun H locs ho hL => ?_)
      refine lv_if_eq (tgt := 888) hx hb dL_law_754 (by decide) (fun c19 => ?_) (fun c19 => ?_)
      · rw [if_pos c19] at h
        cases h
      · rw [if_neg c19] at h
        refine lv_aload hx hb dL_law_757 (lv_at hl 5 rfl) ?_
        obtain ⟨q4, hq4, h⟩ := ob h
        refine ly_call hK hEx S hL ⟨(Nat.le_of_ble_eq_true rfl), (Nat.le_of_ble_eq_true rfl)⟩ rfl hl.1 (Nat.le_of_ble_eq_true rfl) ml_L_208 (fun P hA hn => c_X5_isOut l P hA hn q3.2 hq4) ok_X5_isOut rfl rfl dL_law_759 ⟨(Nat.le_of_ble_eq_true rfl), (Nat.le_of_ble_eq_true rfl)⟩ (fun H locs ho hL => ?_)
        refine lv_if_eq (tgt := 888) hx hb dL_law_762 (by decide) (fun c20 => ?_) (fun c20 => ?_)
        · rw [if_pos c20] at h
          cases h
        · rw [if_neg c20] at h
          refine lv_aload hx hb dL_law_765 (lv_at hl 5 rfl) ?_
          refine lv_bipush (v := 7) hx hb dL_law_767 (by decide) ?_
          refine lv_iconst (v := 0) hx hb dL_law_769 (by decide) ?_
          refine lv_iconst (v := 0) hx hb dL_law_770 (by decide) ?_
          refine lv_bipush (v := 32) hx hb dL_law_771 (by decide) ?_
          obtain ⟨q5, hq5, h⟩ := ob h
          refine ly_tab hK hEx S hL ⟨(Nat.le_of_ble_eq_true rfl), (Nat.le_of_ble_eq_true rfl)⟩ rfl hl.1 (Nat.le_of_ble_eq_true rfl) ml_L_30 (fun P hA hn => c_L_act l P hA hn hst q3.2 7 0 0 32 hq5) ok_L_act rfl dL_law_773 ⟨(Nat.le_of_ble_eq_true rfl), (Nat.le_of_ble_eq_true rfl)⟩ (fun H locs ho hL => ?_)
          refine lv_bipush (v := (-2)) hx hb dL_law_776 (by decide) ?_
          refine lv_icmp_ne (tgt := 888) hx hb dL_law_778 (by decide) (fun c21 => ?_) (fun c21 => ?_)
          · rw [if_neg c21] at h
            cases h
          · rw [if_pos c21] at h
            refine lv_aload hx hb dL_law_781 (lv_at hl 5 rfl) ?_
            refine lv_iconst (v := 0) hx hb dL_law_783 (by decide) ?_
            obtain ⟨q6, hq6, h⟩ := ob h
            refine ly_call hK hEx S hL ⟨(Nat.le_of_ble_eq_true rfl), (Nat.le_of_ble_eq_true rfl)⟩ rfl hl.1 (Nat.le_of_ble_eq_true rfl) ml_L_176 (fun P hA hn => n_X5_refusal l P hA hn q5.2 0 (nx_some hq6)) ok_X5_refusal rfl rfl dL_law_784 ⟨(Nat.le_of_ble_eq_true rfl), (Nat.le_of_ble_eq_true rfl)⟩ (fun H locs ho hL => ?_)
            refine lv_iconst (v := 4) hx hb dL_law_787 (by decide) ?_
            refine lv_icmp_ne (tgt := 888) hx hb dL_law_788 (by decide) (fun c22 => ?_) (fun c22 => ?_)
            · rw [if_neg c22] at h
              cases h
            · rw [if_pos c22] at h
              refine lv_aload hx hb dL_law_791 (lv_at hl 5 rfl) ?_
              refine lv_iconst (v := 1) hx hb dL_law_793 (by decide) ?_
              obtain ⟨q7, hq7, h⟩ := ob h
              refine ly_call hK hEx S hL ⟨(Nat.le_of_ble_eq_true rfl), (Nat.le_of_ble_eq_true rfl)⟩ rfl hl.1 (Nat.le_of_ble_eq_true rfl) ml_L_176 (fun P hA hn => n_X5_refusal l P hA hn q6.2 1 (nx_some hq7)) ok_X5_refusal rfl rfl dL_law_794 ⟨(Nat.le_of_ble_eq_true rfl), (Nat.le_of_ble_eq_true rfl)⟩ (fun H locs ho hL => ?_)
              refine lv_iconst (v := 2) hx hb dL_law_797 (by decide) ?_
              refine lv_icmp_ne (tgt := 888) hx hb dL_law_798 (by decide) (fun c23 => ?_) (fun c23 => ?_)
              · rw [if_neg c23] at h
                cases h
              · rw [if_pos c23] at h
                refine lv_aload hx hb dL_law_801 (lv_at hl 5 rfl) ?_
                refine lv_iconst (v := 0) hx hb dL_law_803 (by decide) ?_
                refine lv_bipush (v := 46) hx hb dL_law_804 (by decide) ?_
                obtain ⟨q8, hq8, h⟩ := ob h
                refine ly_call hK hEx S hL ⟨(Nat.le_of_ble_eq_true rfl), (Nat.le_of_ble_eq_true rfl)⟩ rfl hl.1 (Nat.le_of_ble_eq_true rfl) ml_L_52 (fun P hA hn => n_X5_goal l P hA hn q7.2 0 46 (nx_some hq8)) ok_X5_goal rfl rfl dL_law_806 ⟨(Nat.le_of_ble_eq_true rfl), (Nat.le_of_ble_eq_true rfl)⟩ (fun H locs ho hL => ?_)
                refine lv_bipush (v := 97) hx hb dL_law_809 (by decide) ?_
                refine lv_icmp_ne (tgt := 888) hx hb dL_law_811 (by decide) (fun c24 => ?_) (fun c24 => ?_)
                · rw [if_neg c24] at h
                  cases h
                · rw [if_pos c24] at h
                  refine lv_aload hx hb dL_law_814 (lv_at hl 5 rfl) ?_
                  obtain ⟨q9, hq9, h⟩ := ob h
                  refine ly_call hK hEx S hL ⟨(Nat.le_of_ble_eq_true rfl), (Nat.le_of_ble_eq_true rfl)⟩ rfl hl.1 (Nat.le_of_ble_eq_true rfl) ml_L_208 (fun P hA hn => c_X5_isOut l P hA hn q8.2 hq9) ok_X5_isOut rfl rfl dL_law_816 ⟨(Nat.le_of_ble_eq_true rfl), (Nat.le_of_ble_eq_true rfl)⟩ (fun H locs ho hL => ?_)
                  refine lv_if_eq (tgt := 888) hx hb dL_law_819 (by decide) (fun c25 => ?_) (fun c25 => ?_)
                  · rw [if_pos c25] at h
                    cases h
                  · rw [if_neg c25] at h
                    refine lv_aload hx hb dL_law_822 (lv_at hl 5 rfl) ?_
                    refine lv_iconst (v := 1) hx hb dL_law_824 (by decide) ?_
                    refine lv_bipush (v := 46) hx hb dL_law_825 (by decide) ?_
                    obtain ⟨q10, hq10, h⟩ := ob h
                    refine ly_call hK hEx S hL ⟨(Nat.le_of_ble_eq_true rfl), (Nat.le_of_ble_eq_true rfl)⟩ rfl hl.1 (Nat.le_of_ble_eq_true rfl) ml_L_52 (fun P hA hn => n_X5_goal l P hA hn q8.2 1 46 (nx_some hq10)) ok_X5_goal rfl rfl dL_law_827 ⟨(Nat.le_of_ble_eq_true rfl), (Nat.le_of_ble_eq_true rfl)⟩ (fun H locs ho hL => ?_)
                    refine lv_bipush (v := 98) hx hb dL_law_830 (by decide) ?_
                    refine lv_icmp_ne (tgt := 888) hx hb dL_law_832 (by decide) (fun c26 => ?_) (fun c26 => ?_)
                    · rw [if_neg c26] at h
                      cases h
                    · rw [if_pos c26] at h
                      refine lv_aload hx hb dL_law_835 (lv_at hl 5 rfl) ?_
                      obtain ⟨q11, hq11, h⟩ := ob h
                      refine ly_call hK hEx S hL ⟨(Nat.le_of_ble_eq_true rfl), (Nat.le_of_ble_eq_true rfl)⟩ rfl hl.1 (Nat.le_of_ble_eq_true rfl) ml_L_208 (fun P hA hn => c_X5_isOut l P hA hn q10.2 hq11) ok_X5_isOut rfl rfl dL_law_837 ⟨(Nat.le_of_ble_eq_true rfl), (Nat.le_of_ble_eq_true rfl)⟩ (fun H locs ho hL => ?_)
                      refine lv_if_ne (tgt := 888) hx hb dL_law_840 (by decide) (fun c27 => ?_) (fun c27 => ?_)
                      · rw [if_neg c27] at h
                        cases h
                      · rw [if_pos c27] at h
                        refine lv_aload hx hb dL_law_843 (lv_at hl 5 rfl) ?_
                        obtain ⟨q12, hq12, h⟩ := ob h
                        refine ly_call hK hEx S hL ⟨(Nat.le_of_ble_eq_true rfl), (Nat.le_of_ble_eq_true rfl)⟩ rfl hl.1 (Nat.le_of_ble_eq_true rfl) ml_L_215 (fun P hA hn => c_X5_home l P hA hn q10.2 hq12) ok_X5_home rfl rfl dL_law_845 ⟨(Nat.le_of_ble_eq_true rfl), (Nat.le_of_ble_eq_true rfl)⟩ (fun H locs ho hL => ?_)
                        refine lv_bipush (v := 9) hx hb dL_law_848 (by decide) ?_
                        refine lv_icmp_ne (tgt := 888) hx hb dL_law_850 (by decide) (fun c28 => ?_) (fun c28 => ?_)
                        · rw [if_neg c28] at h
                          cases h
                        · rw [if_pos c28] at h
                          refine lv_aload hx hb dL_law_853 (lv_at hl 5 rfl) ?_
                          refine lv_iconst (v := 1) hx hb dL_law_855 (by decide) ?_
                          obtain ⟨q13, hq13, h⟩ := ob h
                          refine ly_call hK hEx S hL ⟨(Nat.le_of_ble_eq_true rfl), (Nat.le_of_ble_eq_true rfl)⟩ rfl hl.1 (Nat.le_of_ble_eq_true rfl) ml_L_206 (fun P hA hn => n_X5_away l P hA hn q10.2 1 (nx_some hq13)) ok_X5_away rfl rfl dL_law_856 ⟨(Nat.le_of_ble_eq_true rfl), (Nat.le_of_ble_eq_true rfl)⟩ (fun H locs ho hL => ?_)
                          refine lv_if_ne (tgt := 888) hx hb dL_law_859 (by decide) (fun c29 => ?_) (fun c29 => ?_)
                          · rw [if_neg c29] at h
                            cases h
                          · rw [if_pos c29] at h
                            refine lv_aload hx hb dL_law_862 (lv_at hl 5 rfl) ?_
                            refine lv_bipush (v := 6) hx hb dL_law_864 (by decide) ?_
                            obtain ⟨q14, hq14, h⟩ := ob h
                            refine ly_call hK hEx S hL ⟨(Nat.le_of_ble_eq_true rfl), (Nat.le_of_ble_eq_true rfl)⟩ rfl hl.1 (Nat.le_of_ble_eq_true rfl) ml_L_38 (fun P hA hn => n_X5_boardOf l P hA hn q13.2 6 (nx_some hq14)) ok_X5_boardOf rfl rfl dL_law_866 ⟨(Nat.le_of_ble_eq_true rfl), (Nat.le_of_ble_eq_true rfl)⟩ (fun H locs ho hL => ?_)
                            refine lv_iconst (v := 2) hx hb dL_law_869 (by decide) ?_
                            refine lv_icmp_ne (tgt := 888) hx hb dL_law_870 (by decide) (fun c30 => ?_) (fun c30 => ?_)
                            · rw [if_neg c30] at h
                              cases h
                            · rw [if_pos c30] at h
                              refine lv_aload hx hb dL_law_873 (lv_at hl 5 rfl) ?_
                              refine lv_aload hx hb dL_law_875 (lv_at hl 5 rfl) ?_
                              obtain ⟨q15, hq15, h⟩ := ob h
                              refine ly_call hK hEx S hL ⟨(Nat.le_of_ble_eq_true rfl), (Nat.le_of_ble_eq_true rfl)⟩ rfl hl.1 (Nat.le_of_ble_eq_true rfl) ml_L_235 (fun P hA hn => c_X5_goalText l P hA hn q14.2 hq15) ok_X5_goalText rfl rfl dL_law_877 ⟨(Nat.le_of_ble_eq_true rfl), (Nat.le_of_ble_eq_true rfl)⟩ (fun H locs ho hL => ?_)
                              obtain ⟨a238, v238, z238, t238⟩ := hLit _ (List.mem_of_getElem? (show lits[16]? = some (238, "..c/def/ghi", [46, 46, 99, 47, 100, 101, 102, 47, 103, 104, 105]) from rfl))
                              refine va_ldcS hx hb S.2.2.2.1 z238 dL_law_880 ?_
                              obtain ⟨q16, hq16, h⟩ := ob h
                              refine ly_line hK hEx S hL hSx ⟨(Nat.le_of_ble_eq_true rfl), (Nat.le_of_ble_eq_true rfl)⟩ hl.1 (Nat.le_of_ble_eq_true rfl) ml_L_222 (lit_at t238 hL.2.2.2.2 (Nat.le_trans hL.1 (Nat.le_trans (Nat.le_add_right _ _) hL.2.1))) (fun P hA hn => c_L_isLine l P hA hn (asc rfl) q15.2 q15.1 hq16) ok_L_isLine rfl dL_law_882 ⟨(Nat.le_of_ble_eq_true rfl), (Nat.le_of_ble_eq_true rfl)⟩ (fun H locs ho hL => ?_)
                              refine lv_if_ne (tgt := 890) hx hb dL_law_885 (by decide) (fun c31 => ?_) (fun c31 => ?_)
                              · rw [if_neg c31] at h
                                obtain rfl := Option.some.inj h
                                refine W.widen (k := 1308) (n := 9948) (Nat.le_of_ble_eq_true rfl) (Nat.le_of_ble_eq_true rfl) ?_
                                exact K _ _ _ hL (lv_sub hl [0, 1, 2, 3, 4, 5] rfl)
                              · rw [if_pos c31] at h
                                cases h
def F_S_Z4 (wy : Wo) (x9 : Int32) : Option (Wo) := (F_X5_singing wy).bind fun q1 => (if q1 = (4 : Int32) then ((nx (F_X5_ranked wy 0)).bind fun q2 => (if q2.1 = (4 : Int32) then ((nx (F_X5_ranked q2.2 5)).bind fun q3 => (if q3.1 = (3 : Int32) then ((nx (F_X5_lineText q3.2 4)).bind fun q4 => ((F_L_isLine q4.2 q4.1 [97, 101, 104]).bind fun q5 => (if q5.1 = 0 then (none) else ((nx (F_X5_lineText q5.2 0)).bind fun q6 => ((F_L_isLine q6.2 q6.1 [98, 97, 99, 33]).bind fun q7 => (if q7.1 = 0 then (none) else ((nx (F_X5_where q7.2 0 0 x9)).bind fun q8 => (if q8.1 = (jrem x9 (3 : Int32)) then ((nx (F_X5_where q8.2 4 0 x9)).bind fun q9 => (if q9.1 = (4 : Int32) then ((nx (F_X5_far q9.2 0 8)).bind fun q10 => (if q10.1 = (2 : Int32) then ((nx (F_X5_meanFar q10.2)).bind fun q11 => (if (Op.cmpValue (FP.dcmp q11.1 FP.dconst0) .l) = 0 then ((F_X5_homeShare q11.2).bind fun q12 => (if (Op.cmpValue (FP.fcmp q12 FP.fconst1) .l) = 0 then ((nx (F_X5_boardOf q11.2 5)).bind fun q13 => (if q13.1 = (3 : Int32) then (some q13.2) else (none))) else (none))) else (none))) else (none))) else (none))) else (none))))))))) else (none))) else (none))) else (none))
set_option maxRecDepth 100000 in
set_option maxHeartbeats 8000000 in
theorem s_Z4 {p : Program} {l : Launch} {e : Env} {s : State} {m : MethodId} {args : Array Value} {below : List Frame} {meth : Method} {c : Code} {Q : State → Prop} {b : Nat} {D : va_G} {cA : Nat → ClassId} {sa : Nat → Nat} {c0 : Cond} (hst : l.stackTraces = false) (hK : va_K D vc (tyl cA) s) (hEx : Ex (0, 0, s.heap.size) sa s) (hSx : SxA (A0 s.heap.size) s s.heap) (hLit : ∀ t ∈ lits, ∃ a v : Nat, vk_R RL t.1 t.2.1 a s ∧ TxA (A0 s.heap.size) a v t.2.2.length (txf t.2.2) s s.heap) (S : CallFix p m c cL_law 11 s args (c0 :: ALLW) RL) {lx ly : Nat} {wx wy : Wo} {x3 : Int32} {x4 : Int32} {x9 : Int32} {r : Wo} (h : F_S_Z4 wy x9 = some r) (K : ∀ (H : Heap) (locs : List Loc) (ls : Array Slot), Two D cA s lx ly wx r H locs → lv_has ls 11 [(0, .ref b), (1, .ref lx), (3, .int x3), (4, .int x4), (9, .int x9), (10, .ref ly)] → W p l e room_1 s m args below meth c H locs 1308 9948 Q (F0 m 1024 ls [])) (H : Heap) (locs : List Loc) (ls : Array Slot) (hL : Two D cA s lx ly wx wy H locs) (hl : lv_has ls 11 [(0, .ref b), (1, .ref lx), (3, .int x3), (4, .int x4), (9, .int x9), (10, .ref ly)]) : W p l e room_1 s m args below meth c H locs 1308 9948 Q (F0 m 890 ls []) := by
  have hx := S.1
  have hb := S.2.1
  unfold F_S_Z4 at h
  refine lv_aload hx hb dL_law_890 (lv_at hl 5 rfl) ?_
  obtain ⟨q1, hq1, h⟩ := ob h
  refine ly_call hK hEx S hL ⟨(Nat.le_of_ble_eq_true rfl), (Nat.le_of_ble_eq_true rfl)⟩ rfl hl.1 (Nat.le_of_ble_eq_true rfl) ml_L_240 (fun P hA hn => c_X5_singing l P hA hn wy hq1) ok_X5_singing rfl rfl dL_law_892 ⟨(Nat.le_of_ble_eq_true rfl), (Nat.le_of_ble_eq_true rfl)⟩ (fun H locs ho hL => ?_)
  refine lv_iconst (v := 4) hx hb dL_law_895 (by decide) ?_
  refine lv_icmp_ne (tgt := 1022) hx hb dL_law_896 (by decide) (fun c14 => ?_) (fun c14 => ?_)
  · rw [if_neg c14] at h
    cases h
  · rw [if_pos c14] at h
    refine lv_aload hx hb dL_law_899 (lv_at hl 5 rfl) ?_
    refine lv_iconst (v := 0) hx hb dL_law_901 (by decide) ?_
    obtain ⟨q2, hq2, h⟩ := ob h
    refine ly_call hK hEx S hL ⟨(Nat.le_of_ble_eq_true rfl), (Nat.le_of_ble_eq_true rfl)⟩ rfl hl.1 (Nat.le_of_ble_eq_true rfl) ml_L_243 (fun P hA hn => n_X5_ranked l P hA hn wy 0 (nx_some hq2)) ok_X5_ranked rfl rfl dL_law_902 ⟨(Nat.le_of_ble_eq_true rfl), (Nat.le_of_ble_eq_true rfl)⟩ (fun H locs ho hL => ?_)
    refine lv_iconst (v := 4) hx hb dL_law_905 (by decide) ?_
    refine lv_icmp_ne (tgt := 1022) hx hb dL_law_906 (by decide) (fun c15 => ?_) (fun c15 => ?_)
    · rw [if_neg c15] at h
      cases h
    · rw [if_pos c15] at h
      refine lv_aload hx hb dL_law_909 (lv_at hl 5 rfl) ?_
      refine lv_iconst (v := 5) hx hb dL_law_911 (by decide) ?_
      obtain ⟨q3, hq3, h⟩ := ob h
      refine ly_call hK hEx S hL ⟨(Nat.le_of_ble_eq_true rfl), (Nat.le_of_ble_eq_true rfl)⟩ rfl hl.1 (Nat.le_of_ble_eq_true rfl) ml_L_243 (fun P hA hn => n_X5_ranked l P hA hn q2.2 5 (nx_some hq3)) ok_X5_ranked rfl rfl dL_law_912 ⟨(Nat.le_of_ble_eq_true rfl), (Nat.le_of_ble_eq_true rfl)⟩ (fun H locs ho hL => ?_)
      refine lv_iconst (v := 3) hx hb dL_law_915 (by decide) ?_
      refine lv_icmp_ne (tgt := 1022) hx hb dL_law_916 (by decide) (fun c16 => ?_) (fun c16 => ?_)
      · rw [if_neg c16] at h
        cases h
      · rw [if_pos c16] at h
        refine lv_aload hx hb dL_law_919 (lv_at hl 5 rfl) ?_
        refine lv_aload hx hb dL_law_921 (lv_at hl 5 rfl) ?_
        refine lv_iconst (v := 4) hx hb dL_law_923 (by decide) ?_
        obtain ⟨q4, hq4, h⟩ := ob h
        refine ly_call hK hEx S hL ⟨(Nat.le_of_ble_eq_true rfl), (Nat.le_of_ble_eq_true rfl)⟩ rfl hl.1 (Nat.le_of_ble_eq_true rfl) ml_L_246 (fun P hA hn => n_X5_lineText l P hA hn q3.2 4 (nx_some hq4)) ok_X5_lineText rfl rfl dL_law_924 ⟨(Nat.le_of_ble_eq_true rfl), (Nat.le_of_ble_eq_true rfl)⟩ (fun H locs ho hL => ?_)
        obtain ⟨a249, v249, z249, t249⟩ := hLit _ (List.mem_of_getElem? (show lits[17]? = some (249, "aeh", [97, 101, 104]) from rfl))
        refine va_ldcS hx hb S.2.2.2.1 z249 dL_law_927 ?_
        obtain ⟨q5, hq5, h⟩ := ob h
        refine ly_line hK hEx S hL hSx ⟨(Nat.le_of_ble_eq_true rfl), (Nat.le_of_ble_eq_true rfl)⟩ hl.1 (Nat.le_of_ble_eq_true rfl) ml_L_222 (lit_at t249 hL.2.2.2.2 (Nat.le_trans hL.1 (Nat.le_trans (Nat.le_add_right _ _) hL.2.1))) (fun P hA hn => c_L_isLine l P hA hn (asc rfl) q4.2 q4.1 hq5) ok_L_isLine rfl dL_law_929 ⟨(Nat.le_of_ble_eq_true rfl), (Nat.le_of_ble_eq_true rfl)⟩ (fun H locs ho hL => ?_)
        refine lv_if_eq (tgt := 1022) hx hb dL_law_932 (by decide) (fun c17 => ?_) (fun c17 => ?_)
        · rw [if_pos c17] at h
          cases h
        · rw [if_neg c17] at h
          refine lv_aload hx hb dL_law_935 (lv_at hl 5 rfl) ?_
          refine lv_aload hx hb dL_law_937 (lv_at hl 5 rfl) ?_
          refine lv_iconst (v := 0) hx hb dL_law_939 (by decide) ?_
          obtain ⟨q6, hq6, h⟩ := ob h
          refine ly_call hK hEx S hL ⟨(Nat.le_of_ble_eq_true rfl), (Nat.le_of_ble_eq_true rfl)⟩ rfl hl.1 (Nat.le_of_ble_eq_true rfl) ml_L_246 (fun P hA hn => n_X5_lineText l P hA hn q5.2 0 (nx_some hq6)) ok_X5_lineText rfl rfl dL_law_940 ⟨(Nat.le_of_ble_eq_true rfl), (Nat.le_of_ble_eq_true rfl)⟩ (fun H locs ho hL => ?_)
          obtain ⟨a251, v251, z251, t251⟩ := hLit _ (List.mem_of_getElem? (show lits[18]? = some (251, "bac!", [98, 97, 99, 33]) from rfl))
          refine va_ldcS hx hb S.2.2.2.1 z251 dL_law_943 ?_
          obtain ⟨q7, hq7, h⟩ := ob h
          refine ly_line hK hEx S hL hSx ⟨(Nat.le_of_ble_eq_true rfl), (Nat.le_of_ble_eq_true rfl)⟩ hl.1 (Nat.le_of_ble_eq_true rfl) ml_L_222 (lit_at t251 hL.2.2.2.2 (Nat.le_trans hL.1 (Nat.le_trans (Nat.le_add_right _ _) hL.2.1))) (fun P hA hn => c_L_isLine l P hA hn (asc rfl) q6.2 q6.1 hq7) ok_L_isLine rfl dL_law_945 ⟨(Nat.le_of_ble_eq_true rfl), (Nat.le_of_ble_eq_true rfl)⟩ (fun H locs ho hL => ?_)
          refine lv_if_eq (tgt := 1022) hx hb dL_law_948 (by decide) (fun c18 => ?_) (fun c18 => ?_)
          · rw [if_pos c18] at h
            cases h
          · rw [if_neg c18] at h
            refine lv_aload hx hb dL_law_951 (lv_at hl 5 rfl) ?_
            refine lv_iconst (v := 0) hx hb dL_law_953 (by decide) ?_
            refine lv_iconst (v := 0) hx hb dL_law_954 (by decide) ?_
            refine lv_iload hx hb dL_law_955 (lv_at hl 4 rfl) ?_
            obtain ⟨q8, hq8, h⟩ := ob h
            refine ly_call hK hEx S hL ⟨(Nat.le_of_ble_eq_true rfl), (Nat.le_of_ble_eq_true rfl)⟩ rfl hl.1 (Nat.le_of_ble_eq_true rfl) ml_L_253 (fun P hA hn => n_X5_where l P hA hn q7.2 0 0 x9 (nx_some hq8)) ok_X5_where rfl rfl dL_law_957 ⟨(Nat.le_of_ble_eq_true rfl), (Nat.le_of_ble_eq_true rfl)⟩ (fun H locs ho hL => ?_)
            refine lv_iload hx hb dL_law_960 (lv_at hl 4 rfl) ?_
            refine lv_iconst (v := 3) hx hb dL_law_962 (by decide) ?_
            refine lv_irem hx hb dL_law_963 (by decide) ?_
            refine lv_icmp_ne (tgt := 1022) hx hb dL_law_964 (by decide) (fun c19 => ?_) (fun c19 => ?_)
            · rw [if_neg c19] at h
              cases h
            · rw [if_pos c19] at h
              refine lv_aload hx hb dL_law_967 (lv_at hl 5 rfl) ?_
              refine lv_iconst (v := 4) hx hb dL_law_969 (by decide) ?_
              refine lv_iconst (v := 0) hx hb dL_law_970 (by decide) ?_
              refine lv_iload hx hb dL_law_971 (lv_at hl 4 rfl) ?_
              obtain ⟨q9, hq9, h⟩ := ob h
              refine ly_call hK hEx S hL ⟨(Nat.le_of_ble_eq_true rfl), (Nat.le_of_ble_eq_true rfl)⟩ rfl hl.1 (Nat.le_of_ble_eq_true rfl) ml_L_253 (fun P hA hn => n_X5_where l P hA hn q8.2 4 0 x9 (nx_some hq9)) ok_X5_where rfl rfl dL_law_973 ⟨(Nat.le_of_ble_eq_true rfl), (Nat.le_of_ble_eq_true rfl)⟩ (fun H locs ho hL => ?_)
              refine lv_iconst (v := 4) hx hb dL_law_976 (by decide) ?_
              refine lv_icmp_ne (tgt := 1022) hx hb dL_law_977 (by decide) (fun c20 => ?_) (fun c20 => ?_)
              · rw [if_neg c20] at h
                cases h
              · rw [if_pos c20] at h
                refine lv_aload hx hb dL_law_980 (lv_at hl 5 rfl) ?_
                refine lv_iconst (v := 0) hx hb dL_law_982 (by decide) ?_
                refine lv_bipush (v := 8) hx hb dL_law_983 (by decide) ?_
                obtain ⟨q10, hq10, h⟩ := ob h
                refine ly_call hK hEx S hL ⟨(Nat.le_of_ble_eq_true rfl), (Nat.le_of_ble_eq_true rfl)⟩ rfl hl.1 (Nat.le_of_ble_eq_true rfl) ml_L_257 (fun P hA hn => n_X5_far l P hA hn q9.2 0 8 (nx_some hq10)) ok_X5_far rfl rfl dL_law_985 ⟨(Nat.le_of_ble_eq_true rfl), (Nat.le_of_ble_eq_true rfl)⟩ (fun H locs ho hL => ?_)
                refine lv_iconst (v := 2) hx hb dL_law_988 (by decide) ?_
                refine lv_icmp_ne (tgt := 1022) hx hb dL_law_989 (by decide) (fun c21 => ?_) (fun c21 => ?_)
                · rw [if_neg c21] at h
                  cases h
                · rw [if_pos c21] at h
                  refine lv_aload hx hb dL_law_992 (lv_at hl 5 rfl) ?_
                  obtain ⟨q11, hq11, h⟩ := ob h
                  refine ly_calld hK hEx S hL ⟨(Nat.le_of_ble_eq_true rfl), (Nat.le_of_ble_eq_true rfl)⟩ rfl hl.1 (Nat.le_of_ble_eq_true rfl) ml_L_260 (fun P hA hn => n_X5_meanFar l P hA hn q10.2 (nx_some hq11)) ok_X5_meanFar rfl rfl dL_law_994 ⟨(Nat.le_of_ble_eq_true rfl), (Nat.le_of_ble_eq_true rfl)⟩ (fun H locs hL => ?_)
                  refine lv_dconst0 hx hb dL_law_997 ?_
                  refine lv_dcmp hx hb dL_law_998 ?_
                  refine lv_if_ne (tgt := 1022) hx hb dL_law_999 (by decide) (fun c22 => ?_) (fun c22 => ?_)
                  · rw [if_neg c22] at h
                    cases h
                  · rw [if_pos c22] at h
                    refine lv_aload hx hb dL_law_1002 (lv_at hl 5 rfl) ?_
                    obtain ⟨q12, hq12, h⟩ := ob h
                    refine ly_callf hK hEx S hL ⟨(Nat.le_of_ble_eq_true rfl), (Nat.le_of_ble_eq_true rfl)⟩ rfl hl.1 (Nat.le_of_ble_eq_true rfl) ml_L_264 (fun P hA hn => c_X5_homeShare l P hA hn q11.2 hq12) ok_X5_homeShare rfl rfl dL_law_1004 ⟨(Nat.le_of_ble_eq_true rfl), (Nat.le_of_ble_eq_true rfl)⟩ (fun H locs hL => ?_)
                    refine lv_fconst1 hx hb dL_law_1007 ?_
                    refine lv_fcmp hx hb dL_law_1008 ?_
                    refine lv_if_ne (tgt := 1022) hx hb dL_law_1009 (by decide) (fun c23 => ?_) (fun c23 => ?_)
                    · rw [if_neg c23] at h
                      cases h
                    · rw [if_pos c23] at h
                      refine lv_aload hx hb dL_law_1012 (lv_at hl 5 rfl) ?_
                      refine lv_iconst (v := 5) hx hb dL_law_1014 (by decide) ?_
                      obtain ⟨q13, hq13, h⟩ := ob h
                      refine ly_call hK hEx S hL ⟨(Nat.le_of_ble_eq_true rfl), (Nat.le_of_ble_eq_true rfl)⟩ rfl hl.1 (Nat.le_of_ble_eq_true rfl) ml_L_38 (fun P hA hn => n_X5_boardOf l P hA hn q11.2 5 (nx_some hq13)) ok_X5_boardOf rfl rfl dL_law_1015 ⟨(Nat.le_of_ble_eq_true rfl), (Nat.le_of_ble_eq_true rfl)⟩ (fun H locs ho hL => ?_)
                      refine lv_iconst (v := 3) hx hb dL_law_1018 (by decide) ?_
                      refine lv_icmp_eq (tgt := 1024) hx hb dL_law_1019 (by decide) (fun c24 => ?_) (fun c24 => ?_)
                      · rw [if_pos c24] at h
                        obtain rfl := Option.some.inj h
                        refine W.widen (k := 1308) (n := 9948) (Nat.le_of_ble_eq_true rfl) (Nat.le_of_ble_eq_true rfl) ?_
                        exact K _ _ _ hL (lv_sub hl [0, 1, 2, 3, 4, 5] rfl)
                      · rw [if_neg c24] at h
                        cases h
def F_S_Z5 (wy : Wo) : Option (Wo) := (nx (F_X5_put wy 0 108)).bind fun q1 => (if q1.1 = (98 : Int32) then ((F_L_act q1.2 1 0 0 108).bind fun q2 => (if q2.1 = ((-2) : Int32) then ((nx (F_X5_refusal q2.2 0)).bind fun q3 => (if q3.1 = (2 : Int32) then ((nx (F_X5_refusal q3.2 1)).bind fun q4 => (if q4.1 = 0 then ((nx (F_X5_board q4.2 2 3)).bind fun q5 => (if q5.1 = (6 : Int32) then ((nx (F_X5_account q5.2 6)).bind fun q6 => (if q6.1 = (1 : Int32) then ((F_X5_text q6.2).bind fun q7 => ((F_L_isLine q7.2 q7.1 [97, 98, 99, 47, 100, 101, 102]).bind fun q8 => (if q8.1 = 0 then (none) else ((nx (F_X5_boardOf q8.2 2)).bind fun q9 => (if q9.1 = (10 : Int32) then ((F_X5_isWell q9.2).bind fun q10 => (if q10.1 = 0 then (none) else (some q10.2))) else (none)))))) else (none))) else (none))) else (none))) else (none))) else (none))) else (none))
set_option maxRecDepth 100000 in
set_option maxHeartbeats 8000000 in
theorem s_Z5 {p : Program} {l : Launch} {e : Env} {s : State} {m : MethodId} {args : Array Value} {below : List Frame} {meth : Method} {c : Code} {Q : State → Prop} {b : Nat} {D : va_G} {cA : Nat → ClassId} {sa : Nat → Nat} {c0 : Cond} (hst : l.stackTraces = false) (hK : va_K D vc (tyl cA) s) (hEx : Ex (0, 0, s.heap.size) sa s) (hSx : SxA (A0 s.heap.size) s s.heap) (hLit : ∀ t ∈ lits, ∃ a v : Nat, vk_R RL t.1 t.2.1 a s ∧ TxA (A0 s.heap.size) a v t.2.2.length (txf t.2.2) s s.heap) (S : CallFix p m c cL_law 11 s args (c0 :: ALLW) RL) {lx ly : Nat} {wx wy : Wo} {x3 : Int32} {x4 : Int32} {x9 : Int32} {r : Wo} (h : F_S_Z5 wy = some r) (K : ∀ (H : Heap) (locs : List Loc) (ls : Array Slot), Two D cA s lx ly wx r H locs → lv_has ls 11 [(0, .ref b), (1, .ref lx), (3, .int x3), (4, .int x4)] → W p l e room_1 s m args below meth c H locs 1310 9960 Q (F0 m 1131 ls [])) (H : Heap) (locs : List Loc) (ls : Array Slot) (hL : Two D cA s lx ly wx wy H locs) (hl : lv_has ls 11 [(0, .ref b), (1, .ref lx), (3, .int x3), (4, .int x4), (9, .int x9), (10, .ref ly)]) : W p l e room_1 s m args below meth c H locs 1308 9948 Q (F0 m 1024 ls []) := by
  have hx := S.1
  have hb := S.2.1
  unfold F_S_Z5 at h
  refine lv_aload hx hb dL_law_1024 (lv_at hl 5 rfl) ?_
  refine lv_iconst (v := 0) hx hb dL_law_1026 (by decide) ?_
  refine lv_bipush (v := 108) hx hb dL_law_1027 (by decide) ?_
  obtain ⟨q1, hq1, h⟩ := ob h
  refine ly_call hK hEx S hL ⟨(Nat.le_of_ble_eq_true rfl), (Nat.le_of_ble_eq_true rfl)⟩ rfl hl.1 (Nat.le_of_ble_eq_true rfl) ml_L_48 (fun P hA hn => n_X5_put l P hA hn wy 0 108 (nx_some hq1)) ok_X5_put rfl rfl dL_law_1029 ⟨(Nat.le_of_ble_eq_true rfl), (Nat.le_of_ble_eq_true rfl)⟩ (fun H locs ho hL => ?_)
  refine lv_bipush (v := 98) hx hb dL_law_1032 (by decide) ?_
  refine lv_icmp_ne (tgt := 1129) hx hb dL_law_1034 (by decide) (fun c11 => ?_) (fun c11 => ?_)
  · rw [if_neg c11] at h
    cases h
  · rw [if_pos c11] at h
    refine lv_aload hx hb dL_law_1037 (lv_at hl 5 rfl) ?_
    refine lv_iconst (v := 1) hx hb dL_law_1039 (by decide) ?_
    refine lv_iconst (v := 0) hx hb dL_law_1040 (by decide) ?_
    refine lv_iconst (v := 0) hx hb dL_law_1041 (by decide) ?_
    refine lv_bipush (v := 108) hx hb dL_law_1042 (by decide) ?_
    obtain ⟨q2, hq2, h⟩ := ob h
    refine ly_tab hK hEx S hL ⟨(Nat.le_of_ble_eq_true rfl), (Nat.le_of_ble_eq_true rfl)⟩ rfl hl.1 (Nat.le_of_ble_eq_true rfl) ml_L_30 (fun P hA hn => c_L_act l P hA hn hst q1.2 1 0 0 108 hq2) ok_L_act rfl dL_law_1044 ⟨(Nat.le_of_ble_eq_true rfl), (Nat.le_of_ble_eq_true rfl)⟩ (fun H locs ho hL => ?_)
    refine lv_bipush (v := (-2)) hx hb dL_law_1047 (by decide) ?_
    refine lv_icmp_ne (tgt := 1129) hx hb dL_law_1049 (by decide) (fun c12 => ?_) (fun c12 => ?_)
    · rw [if_neg c12] at h
      cases h
    · rw [if_pos c12] at h
      refine lv_aload hx hb dL_law_1052 (lv_at hl 5 rfl) ?_
      refine lv_iconst (v := 0) hx hb dL_law_1054 (by decide) ?_
      obtain ⟨q3, hq3, h⟩ := ob h
      refine ly_call hK hEx S hL ⟨(Nat.le_of_ble_eq_true rfl), (Nat.le_of_ble_eq_true rfl)⟩ rfl hl.1 (Nat.le_of_ble_eq_true rfl) ml_L_176 (fun P hA hn => n_X5_refusal l P hA hn q2.2 0 (nx_some hq3)) ok_X5_refusal rfl rfl dL_law_1055 ⟨(Nat.le_of_ble_eq_true rfl), (Nat.le_of_ble_eq_true rfl)⟩ (fun H locs ho hL => ?_)
      refine lv_iconst (v := 2) hx hb dL_law_1058 (by decide) ?_
      refine lv_icmp_ne (tgt := 1129) hx hb dL_law_1059 (by decide) (fun c13 => ?_) (fun c13 => ?_)
      · rw [if_neg c13] at h
        cases h
      · rw [if_pos c13] at h
        refine lv_aload hx hb dL_law_1062 (lv_at hl 5 rfl) ?_
        refine lv_iconst (v := 1) hx hb dL_law_1064 (by decide) ?_
        obtain ⟨q4, hq4, h⟩ := ob h
        refine ly_call hK hEx S hL ⟨(Nat.le_of_ble_eq_true rfl), (Nat.le_of_ble_eq_true rfl)⟩ rfl hl.1 (Nat.le_of_ble_eq_true rfl) ml_L_176 (fun P hA hn => n_X5_refusal l P hA hn q3.2 1 (nx_some hq4)) ok_X5_refusal rfl rfl dL_law_1065 ⟨(Nat.le_of_ble_eq_true rfl), (Nat.le_of_ble_eq_true rfl)⟩ (fun H locs ho hL => ?_)
        refine lv_if_ne (tgt := 1129) hx hb dL_law_1068 (by decide) (fun c14 => ?_) (fun c14 => ?_)
        · rw [if_neg c14] at h
          cases h
        · rw [if_pos c14] at h
          refine lv_aload hx hb dL_law_1071 (lv_at hl 5 rfl) ?_
          refine lv_iconst (v := 2) hx hb dL_law_1073 (by decide) ?_
          refine lv_iconst (v := 3) hx hb dL_law_1074 (by decide) ?_
          obtain ⟨q5, hq5, h⟩ := ob h
          refine ly_call hK hEx S hL ⟨(Nat.le_of_ble_eq_true rfl), (Nat.le_of_ble_eq_true rfl)⟩ rfl hl.1 (Nat.le_of_ble_eq_true rfl) ml_L_44 (fun P hA hn => n_X5_board l P hA hn q4.2 2 3 (nx_some hq5)) ok_X5_board rfl rfl dL_law_1075 ⟨(Nat.le_of_ble_eq_true rfl), (Nat.le_of_ble_eq_true rfl)⟩ (fun H locs ho hL => ?_)
          refine lv_bipush (v := 6) hx hb dL_law_1078 (by decide) ?_
          refine lv_icmp_ne (tgt := 1129) hx hb dL_law_1080 (by decide) (fun c15 => ?_) (fun c15 => ?_)
          · rw [if_neg c15] at h
            cases h
          · rw [if_pos c15] at h
            refine lv_aload hx hb dL_law_1083 (lv_at hl 5 rfl) ?_
            refine lv_bipush (v := 6) hx hb dL_law_1085 (by decide) ?_
            obtain ⟨q6, hq6, h⟩ := ob h
            refine ly_call hK hEx S hL ⟨(Nat.le_of_ble_eq_true rfl), (Nat.le_of_ble_eq_true rfl)⟩ rfl hl.1 (Nat.le_of_ble_eq_true rfl) ml_L_34 (fun P hA hn => n_X5_account l P hA hn q5.2 6 (nx_some hq6)) ok_X5_account rfl rfl dL_law_1087 ⟨(Nat.le_of_ble_eq_true rfl), (Nat.le_of_ble_eq_true rfl)⟩ (fun H locs ho hL => ?_)
            refine lv_iconst (v := 1) hx hb dL_law_1090 (by decide) ?_
            refine lv_icmp_ne (tgt := 1129) hx hb dL_law_1091 (by decide) (fun c16 => ?_) (fun c16 => ?_)
            · rw [if_neg c16] at h
              cases h
            · rw [if_pos c16] at h
              refine lv_aload hx hb dL_law_1094 (lv_at hl 5 rfl) ?_
              refine lv_aload hx hb dL_law_1096 (lv_at hl 5 rfl) ?_
              obtain ⟨q7, hq7, h⟩ := ob h
              refine ly_call hK hEx S hL ⟨(Nat.le_of_ble_eq_true rfl), (Nat.le_of_ble_eq_true rfl)⟩ rfl hl.1 (Nat.le_of_ble_eq_true rfl) ml_L_217 (fun P hA hn => c_X5_text l P hA hn q6.2 hq7) ok_X5_text rfl rfl dL_law_1098 ⟨(Nat.le_of_ble_eq_true rfl), (Nat.le_of_ble_eq_true rfl)⟩ (fun H locs ho hL => ?_)
              obtain ⟨a268, v268, z268, t268⟩ := hLit _ (List.mem_of_getElem? (show lits[19]? = some (268, "abc/def", [97, 98, 99, 47, 100, 101, 102]) from rfl))
              refine va_ldcSW hx hb S.2.2.2.1 z268 dL_law_1101 ?_
              obtain ⟨q8, hq8, h⟩ := ob h
              refine ly_line hK hEx S hL hSx ⟨(Nat.le_of_ble_eq_true rfl), (Nat.le_of_ble_eq_true rfl)⟩ hl.1 (Nat.le_of_ble_eq_true rfl) ml_L_222 (lit_at t268 hL.2.2.2.2 (Nat.le_trans hL.1 (Nat.le_trans (Nat.le_add_right _ _) hL.2.1))) (fun P hA hn => c_L_isLine l P hA hn (asc rfl) q7.2 q7.1 hq8) ok_L_isLine rfl dL_law_1104 ⟨(Nat.le_of_ble_eq_true rfl), (Nat.le_of_ble_eq_true rfl)⟩ (fun H locs ho hL => ?_)
              refine lv_if_eq (tgt := 1129) hx hb dL_law_1107 (by decide) (fun c17 => ?_) (fun c17 => ?_)
              · rw [if_pos c17] at h
                cases h
              · rw [if_neg c17] at h
                refine lv_aload hx hb dL_law_1110 (lv_at hl 5 rfl) ?_
                refine lv_iconst (v := 2) hx hb dL_law_1112 (by decide) ?_
                obtain ⟨q9, hq9, h⟩ := ob h
                refine ly_call hK hEx S hL ⟨(Nat.le_of_ble_eq_true rfl), (Nat.le_of_ble_eq_true rfl)⟩ rfl hl.1 (Nat.le_of_ble_eq_true rfl) ml_L_38 (fun P hA hn => n_X5_boardOf l P hA hn q8.2 2 (nx_some hq9)) ok_X5_boardOf rfl rfl dL_law_1113 ⟨(Nat.le_of_ble_eq_true rfl), (Nat.le_of_ble_eq_true rfl)⟩ (fun H locs ho hL => ?_)
                refine lv_bipush (v := 10) hx hb dL_law_1116 (by decide) ?_
                refine lv_icmp_ne (tgt := 1129) hx hb dL_law_1118 (by decide) (fun c18 => ?_) (fun c18 => ?_)
                · rw [if_neg c18] at h
                  cases h
                · rw [if_pos c18] at h
                  refine lv_aload hx hb dL_law_1121 (lv_at hl 5 rfl) ?_
                  obtain ⟨q10, hq10, h⟩ := ob h
                  refine ly_call hK hEx S hL ⟨(Nat.le_of_ble_eq_true rfl), (Nat.le_of_ble_eq_true rfl)⟩ rfl hl.1 (Nat.le_of_ble_eq_true rfl) ml_L_270 (fun P hA hn => c_X5_isWell l P hA hn q9.2 hq10) ok_X5_isWell rfl rfl dL_law_1123 ⟨(Nat.le_of_ble_eq_true rfl), (Nat.le_of_ble_eq_true rfl)⟩ (fun H locs ho hL => ?_)
                  refine lv_if_ne (tgt := 1131) hx hb dL_law_1126 (by decide) (fun c19 => ?_) (fun c19 => ?_)
                  · rw [if_neg c19] at h
                    obtain rfl := Option.some.inj h
                    refine W.widen (k := 1310) (n := 9960) (Nat.le_of_ble_eq_true rfl) (Nat.le_of_ble_eq_true rfl) ?_
                    exact K _ _ _ hL (lv_sub hl [0, 1, 2, 3] rfl)
                  · rw [if_pos c19] at h
                    cases h
def F_S_I (wx : Wo) (x3 : Int32) (x4 : Int32) : Option (Wo) := (nx (F_X5_restore wx)).bind fun q1 => (if q1.1 = x3 then ((nx (F_X5_account q1.2 9)).bind fun q2 => (if q2.1 = 0 then ((nx (F_L_state q2.2)).bind fun q3 => (if q3.1 = x4 then (some q3.2) else (none))) else (none))) else (none))
set_option maxRecDepth 100000 in
set_option maxHeartbeats 8000000 in
theorem s_I {p : Program} {l : Launch} {e : Env} {s : State} {m : MethodId} {args : Array Value} {below : List Frame} {meth : Method} {c : Code} {Q : State → Prop} {b : Nat} {D : va_G} {cA : Nat → ClassId} {sa : Nat → Nat} {c0 : Cond} (hst : l.stackTraces = false) (hK : va_K D vc (tyl cA) s) (hEx : Ex (0, 0, s.heap.size) sa s) (hSx : SxA (A0 s.heap.size) s s.heap) (hLit : ∀ t ∈ lits, ∃ a v : Nat, vk_R RL t.1 t.2.1 a s ∧ TxA (A0 s.heap.size) a v t.2.2.length (txf t.2.2) s s.heap) (S : CallFix p m c cL_law 11 s args (c0 :: ALLW) RL) {lx ly : Nat} {wx wy : Wo} {x3 : Int32} {x4 : Int32} {r : Wo} (h : F_S_I wx x3 x4 = some r) (K : ∀ (H : Heap) (locs : List Loc) (ls : Array Slot), Two D cA s lx ly r wy H locs → lv_has ls 11 [(0, .ref b), (1, .ref lx)] → W p l e room_1 s m args below meth c H locs 1310 9960 Q (F0 m 1162 ls [.int 1])) (H : Heap) (locs : List Loc) (ls : Array Slot) (hL : Two D cA s lx ly wx wy H locs) (hl : lv_has ls 11 [(0, .ref b), (1, .ref lx), (3, .int x3), (4, .int x4)]) : W p l e room_1 s m args below meth c H locs 1310 9960 Q (F0 m 1131 ls []) := by
  have hx := S.1
  have hb := S.2.1
  unfold F_S_I at h
  refine lv_aload_n hx hb dL_law_1131 rfl (lv_at hl 1 rfl) ?_
  obtain ⟨q1, hq1, h⟩ := ob h
  refine lx_call hK hEx S hL ⟨(Nat.le_of_ble_eq_true rfl), (Nat.le_of_ble_eq_true rfl)⟩ rfl hl.1 (Nat.le_of_ble_eq_true rfl) ml_L_273 (fun P hA hn => n_X5_restore l P hA hn wx (nx_some hq1)) ok_X5_restore rfl rfl dL_law_1132 ⟨(Nat.le_of_ble_eq_true rfl), (Nat.le_of_ble_eq_true rfl)⟩ (fun H locs ho hL => ?_)
  refine lv_iload_n hx hb dL_law_1135 rfl (lv_at hl 2 rfl) ?_
  refine lv_icmp_ne (tgt := 1161) hx hb dL_law_1136 (by decide) (fun c4 => ?_) (fun c4 => ?_)
  · rw [if_neg c4] at h
    cases h
  · rw [if_pos c4] at h
    refine lv_aload_n hx hb dL_law_1139 rfl (lv_at hl 1 rfl) ?_
    refine lv_bipush (v := 9) hx hb dL_law_1140 (by decide) ?_
    obtain ⟨q2, hq2, h⟩ := ob h
    refine lx_call hK hEx S hL ⟨(Nat.le_of_ble_eq_true rfl), (Nat.le_of_ble_eq_true rfl)⟩ rfl hl.1 (Nat.le_of_ble_eq_true rfl) ml_L_34 (fun P hA hn => n_X5_account l P hA hn q1.2 9 (nx_some hq2)) ok_X5_account rfl rfl dL_law_1142 ⟨(Nat.le_of_ble_eq_true rfl), (Nat.le_of_ble_eq_true rfl)⟩ (fun H locs ho hL => ?_)
    refine lv_if_ne (tgt := 1161) hx hb dL_law_1145 (by decide) (fun c5 => ?_) (fun c5 => ?_)
    · rw [if_neg c5] at h
      cases h
    · rw [if_pos c5] at h
      refine lv_aload_n hx hb dL_law_1148 rfl (lv_at hl 1 rfl) ?_
      obtain ⟨q3, hq3, h⟩ := ob h
      refine lx_stat hK hEx S hL ⟨(Nat.le_of_ble_eq_true rfl), (Nat.le_of_ble_eq_true rfl)⟩ rfl hl.1 (Nat.le_of_ble_eq_true rfl) ml_L_148 (fun P hA hn => n_L_state l P hA hn q2.2 (nx_some hq3)) ok_L_state rfl dL_law_1149 ⟨(Nat.le_of_ble_eq_true rfl), (Nat.le_of_ble_eq_true rfl)⟩ (fun H locs ho hL => ?_)
      refine lv_iload hx hb dL_law_1152 (lv_at hl 3 rfl) ?_
      refine lv_icmp_ne (tgt := 1161) hx hb dL_law_1154 (by decide) (fun c6 => ?_) (fun c6 => ?_)
      · rw [if_neg c6] at h
        cases h
      · rw [if_pos c6] at h
        refine lv_iconst (v := 1) hx hb dL_law_1157 (by decide) ?_
        refine lv_goto (tgt := 1162) hx hb dL_law_1158 (by decide) ?_
        obtain rfl := Option.some.inj h
        refine W.widen (k := 1310) (n := 9960) (Nat.le_of_ble_eq_true rfl) (Nat.le_of_ble_eq_true rfl) ?_
        exact K _ _ _ hL (lv_sub hl [0, 1] rfl)
