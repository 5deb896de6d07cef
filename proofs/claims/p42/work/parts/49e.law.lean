/-! THE LAW: from its entry to its end (written by wip/p42/law2.py) -/
theorem to_J4_append_15ec4 : okV yJ4_append_15ec4 cJ4_append_15ec4 2 (some (.object "java/lang/StringBuilder")) 1 := ⟨inA 1115 (by decide +kernel) (by decide +kernel), inA 1116 (by decide +kernel) (by decide +kernel), inA 54 (by decide +kernel) (by decide +kernel), inA 1117 (by decide +kernel) (by decide +kernel), by decide +kernel, by decide +kernel, by decide +kernel⟩
theorem to_J4_append_bf812 : okV yJ4_append_bf812 cJ4_append_bf812 2 (some (.object "java/lang/StringBuilder")) 1 := ⟨inA 1212 (by decide +kernel) (by decide +kernel), inA 1213 (by decide +kernel) (by decide +kernel), inA 54 (by decide +kernel) (by decide +kernel), inA 1214 (by decide +kernel) (by decide +kernel), by decide +kernel, by decide +kernel, by decide +kernel⟩
theorem to_J4_toString_0e30d : okV yJ4_toString_0e30d cJ4_toString_0e30d 1 (some (.object "java/lang/String")) 0 := ⟨inA 1237 (by decide +kernel) (by decide +kernel), inA 1238 (by decide +kernel) (by decide +kernel), inA 54 (by decide +kernel) (by decide +kernel), inA 1239 (by decide +kernel) (by decide +kernel), by decide +kernel, by decide +kernel, by decide +kernel⟩
theorem to_J4_init_da8c8 : okI yJ4_init_da8c8 cJ4_init_da8c8 1 0 := ⟨inA 1087 (by decide +kernel) (by decide +kernel), inA 54 (by decide +kernel) (by decide +kernel), inA 1088 (by decide +kernel) (by decide +kernel), by decide +kernel, by decide +kernel, by decide +kernel, rfl⟩
theorem tl_L_89 : Cond.methodLink RL 89 yJ4_init_da8c8 ∈ ALLW := inA 1086 (by decide +kernel) (by decide +kernel)
theorem tl_L_90 : Cond.methodLink RL 90 yJ4_append_15ec4 ∈ ALLW := inA 1114 (by decide +kernel) (by decide +kernel)
theorem tl_L_154 : Cond.methodLink RL 154 yJ4_append_bf812 ∈ ALLW := inA 1211 (by decide +kernel) (by decide +kernel)
theorem tl_L_96 : Cond.methodLink RL 96 yJ4_toString_0e30d ∈ ALLW := inA 1236 (by decide +kernel) (by decide +kernel)
theorem tk_L_87 : Cond.classLink RL 87 RJ4 ∈ ALLW := inA 1084 (by decide +kernel) (by decide +kernel)
theorem tin_J4 : Cond.instantiable RJ4 4 ∈ ALLW := inA 1085 (by decide +kernel) (by decide +kernel)
theorem tii_J4 : Cond.initialized RJ4 ∈ ALLW := inA 54 (by decide +kernel) (by decide +kernel)
theorem TxA.congr {A : Nat → Prop} {a v n : Nat} {f g : Nat → Int32} {U : State} {H : Heap} (h : TxA A a v n f U H) (hfg : ∀ j, j < n → f j = g j) : TxA A a v n g U H := by
  obtain ⟨h1, h2, h3, cell, e1, e2, e3, e4, e5, e6, e7⟩ := h
  exact ⟨h1, h2, h3, cell, e1, e2, e3, e4, e5, fun j hj => by show _ = some (Value.int (g j)); rw [← hfg j hj]; exact e6 j hj, e7⟩
/-- the text's three parts -/
def csA : List Nat := [120, 48, 59, 114]
def csB : List Nat := [47, 53, 59, 120, 48, 49, 59]
def csC : List Nat := [47, 53, 59, 120, 48, 59, 115, 48, 49]
def csS (n : Nat) : List Nat := csA ++ dgs n ++ csC
theorem csS_asc : ∀ n, n < 1000 → ((csS n).all (fun c => decide (c < 128)) && decide ((csS n).length < 2 ^ 31)) = true := by decide +kernel
theorem fit128 : ∀ k, k < 128 → fits .byte (.int (nI k)) = true := by decide +kernel
theorem nAb {lo hi tp q : Nat} (h1 : hi ≤ q) (h2 : q < tp) : ¬ Ab (lo, hi, tp) q := by
  rintro (⟨_, b⟩ | c)
  · exact absurd h1 (Nat.not_le.mpr b)
  · exact absurd c (Nat.not_le.mpr h2)
section SB
variable {p : Program} {l : Launch} {e : Env} {s : State} {m : MethodId} {args : Array Value} {below : List Frame} {meth : Method} {c : Code} {Q : State → Prop}
theorem sub_A0 {n0 : Nat} {H : Heap} (h : n0 ≤ H.size) : ∀ q, Ab (0, 0, H.size) q → A0 n0 q := fun q z => A0_iff.mpr (Nat.le_trans h (A0_iff.mp z))
/-- build, called by the law -/
theorem vb_build {R : Room} {H : Heap} {locs : List Loc} {cells slots pc b L : Nat} {xs : Nat → Int32} {ls : Array Slot} {rest : List Value} {c0 : Cond} {D : va_G} {cA : Nat → ClassId} {sa : Nat → Nat} {w : Wo} (hst : l.stackTraces = false) (hK : va_K D vc (tyl cA) s) (hEx : Ex (0, 0, s.heap.size) sa s) (hAO : va_AO "VowelTorus$Board" s) (S : CallFix p m c cL_law 11 s args (c0 :: ALLW) RL) (hL9 : L < 2 ^ 31) (hXs : ∀ (H : Heap) (locs : List Loc), va_S (A0 s.heap.size) s.heap H locs → ∀ U : State, U.heap = H → s.WarmedH U.vm → va_X b L xs U U.heap ∧ b < U.heap.size) (hbl : b < s.heap.size) (hS : va_S (A0 s.heap.size) s.heap H locs) (hw : F_L_build L xs = some w) (hR : 10 + 1 ≤ R.frames ∧ 8 + (8 + 11) + 40 * 10 ≤ R.locals) (hsize : ls.size = 11) (hW : (rest.map fun v => v.category).sum ≤ 8) (hdg : decode cL_law pc = .ok (.invokestatic 141, 3)) (hf : cells + 560 ≤ R.cells ∧ slots + 4200 ≤ R.slots)
    (kk : ∀ (H1 : Heap) (locs1 : List Loc), Oc D cA H.size w H1 → (∀ q : Nat, q < H.size → H1[q]? = H[q]?) → va_S (A0 s.heap.size) s.heap H1 locs1 → W p l e R s m args below meth c H1 locs1 (cells + 560) (slots + 4200) Q (F0 m (pc + 3) ls (.ref H.size :: rest))) : W p l e R s m args below meth c H locs cells slots Q (F0 m pc ls (.ref b :: rest)) := by
  refine va_callr (tt_S (As := [.ref b]) (rest := rest) S (B := BuB D cA sa b L xs H.size) (fun U hU hW9 => ⟨by rw [hU], va_K.moved hW9.alike hK, (by
      have h1 := hEx.warm (U := U) hW9 (fun q h1 h2 => by rw [hU]; exact hS.2.1 q h1 h2)
      exact h1.sub (sub_A0 hS.1)), va_AO.moved hW9.alike hAO, (hXs H locs hS U hU hW9).1, Nat.lt_of_lt_of_le hbl hS.1⟩) (fun U g mk a' h => ⟨h.1, va_K.moved (Vm.Alike.refl U.vm) h.2.1, h.2.2.1.same rfl rfl, va_AO.moved (Vm.Alike.refl U.vm) h.2.2.2.1, va_X.moved (Vm.Alike.refl U.vm) h.2.2.2.2.1, h.2.2.2.2.2⟩) (c_L_build l hst hL9 hw) ok_L_build ml_L_141 hR rfl hsize rfl hW hdg hf) hS (fun q _ h => sub_A0 hS.1 q h) (sub_A0 hS.1) (fun u ra t H1 locs1 ht _ hu hB hz hk hS1 => ?_)
  obtain ⟨rfl, hB⟩ := hB
  subst hu
  subst ht
  exact kk _ _ hB (fun q h => hk q h (fun h9 => absurd (A0_iff.mp h9) (Nat.not_le.mpr h))) hS1
set_option maxRecDepth 100000 in
set_option maxHeartbeats 8000000 in
/-- the text for the orders, made by a StringBuilder and put in -/
theorem s_B {b : Nat} {D : va_G} {cA : Nat → ClassId} {sa : Nat → Nat} {c0 : Cond} (hK : va_K D vc (tyl cA) s) (hEx : Ex (0, 0, s.heap.size) sa s) (hSx : SxA (A0 s.heap.size) s s.heap) (hLit : ∀ t ∈ lits, ∃ a v : Nat, vk_R RL t.1 t.2.1 a s ∧ TxA (A0 s.heap.size) a v t.2.2.length (txf t.2.2) s s.heap) (hDg : DgA (A0 s.heap.size) s s.heap) (hNc : Ncl s) (S : CallFix p m c cL_law 11 s args (c0 :: ALLW) RL) {lx ly : Nat} {wx wy w2 : Wo} {x3 x4 x5 x7 : Int32} {n : Nat} (hn : n < 1000) (h : puts wx (csS n) = some w2)
    (K : ∀ (H : Heap) (locs : List Loc) (ls : Array Slot), Two D cA s lx ly w2 wy H locs → lv_has ls 11 [(0, .ref b), (1, .ref lx), (2, .ref ly), (3, .int x3), (4, .int x4), (5, .int x5), (6, .int (nI n)), (7, .int x7)] → W p l e room_1 s m args below meth c H locs 1200 9000 Q (F0 m 73 ls [])) (H : Heap) (locs : List Loc) (ls : Array Slot) (hL : Two D cA s lx ly wx wy H locs) (hl : lv_has ls 11 [(0, .ref b), (1, .ref lx), (2, .ref ly), (3, .int x3), (4, .int x4), (5, .int x5), (6, .int (nI n)), (7, .int x7)]) : W p l e room_1 s m args below meth c H locs 1120 8400 Q (F0 m 44 ls []) := by
  have hx := S.1
  have hb := S.2.1
  have hn3 : (dgs n).length ≤ 3 := dgs_len n
  have hLn : s.heap.size ≤ H.size := hL.2.2.2.2.1
  have hly : ly + 26 ≤ H.size := hL.2.2.2.1.top
  have hlx : lx + 26 ≤ ly := hL.2.1
  refine lv_aload_n hx hb dL_law_44 rfl (lv_at hl 1 rfl) ?_
  refine W.newcK hx hb S.2.2.2.1 (S.2.2.2.2 _ (List.mem_cons_of_mem _ tk_L_87)) (S.2.2.2.2 _ (List.mem_cons_of_mem _ tin_J4)) (S.2.2.2.2 _ (List.mem_cons_of_mem _ tii_J4)) rfl dL_law_45 (Nat.le_of_ble_eq_true rfl) (Nat.le_of_ble_eq_true rfl) (hK.1 6 _ rfl).2.1 rfl fun H1 kC hkC e1 z1 o1 => ?_
  have hat : va_at D vc (SBn H.size) H1 := ⟨(RJ4, TJ4, 4), rfl, (u_born tyJ4 S.2.2.2.2 (inC_J4 _) (hK.1 6 _ rfl) hkC e1 tyJ4_ok).to (by decide +kernel)⟩
  have hS1 : va_S (A0 s.heap.size) s.heap H1 locs := ⟨by omega, fun q h1 h2 => (o1 q (by omega)).trans (hL.2.2.2.2.2.1 q h1 h2), hL.2.2.2.2.2.2⟩
  generalize hbe : H.size = b0 at *
  refine lv_dup hx hb dL_law_48 rfl ?_
  have hz0 : b0 < H1.size := by omega
  have hAN : ∀ q, AN b0 H1.size q → A0 s.heap.size q := fun q h => A0_iff.mpr (by rcases h with h | h <;> omega)
  refine va_callv (tt_I (As := []) (rest := [.ref b0, .ref lx]) S (B := sbI D cA b0 H1.size) (fun U hU hW9 => ⟨by rw [hU]; exact one_P hat, va_K.moved hW9.alike hK, hSx.at hS1 hAN hU hW9, by rw [hU]⟩) sbI.bl (c_J4_init l) to_J4_init_da8c8 tl_L_89 ⟨(Nat.le_of_ble_eq_true rfl), (Nat.le_of_ble_eq_true rfl)⟩ rfl hl.1 rfl (Nat.le_of_ble_eq_true rfl) dL_law_49 ⟨(Nat.le_of_ble_eq_true rfl), (Nat.le_of_ble_eq_true rfl)⟩) hS1 (fun q _ h => hAN q h) hAN (fun u t H2 locs2 ht _ _ hP2 hz2 hk2 hS2 => ?_)
  subst ht
  generalize hv9 : H1.size = v9 at *
  generalize t.heap = H2 at *
  have hbv : b0 ≠ v9 := by omega
  have hAB : ∀ q, AB b0 v9 q → A0 s.heap.size q := fun q h => A0_iff.mpr (by rcases h with h | h <;> omega)
  have hq2 : ∀ q : Nat, q < b0 → H2[q]? = H[q]? := fun q hq => (hk2 q (by omega) (by rintro (h | h) <;> omega)).trans (o1 q hq)
  obtain ⟨a1, v1, r1, t1⟩ := hLit _ (List.mem_of_getElem? (show lits[0]? = some (152, "x0;r", csA) from rfl))
  refine va_ldcS hx hb S.2.2.2.1 r1 dL_law_52 ?_
  refine va_callr (tt_W (C := RJ4) (As := [.ref a1]) (rest := [.ref lx]) S (va_recv (q := (RJ4, TJ4, 4)) (ci := 6) hK hP2 rfl (show (SBw cA b0 v9 0 (fun _ => 0))[0]? = some (b0, .inr (6, _)) from rfl)) (sbT.at hP2 hK hSx t1 hS2 hAB) sbT.bl (c_J4_append l (asc rfl) (by show 0 + 4 ≤ 16; omega) hbv) to_J4_append_15ec4 rfl tl_L_90 ⟨(Nat.le_of_ble_eq_true rfl), (Nat.le_of_ble_eq_true rfl)⟩ rfl hl.1 rfl (Nat.le_of_ble_eq_true rfl) dL_law_54 ⟨(Nat.le_of_ble_eq_true rfl), (Nat.le_of_ble_eq_true rfl)⟩) hS2 (fun q _ h => hAB q h) hAB (fun u ra t H3 locs3 ht _ _ hB3 hz3 hk3 hS3 => ?_)
  obtain ⟨rfl, hP3⟩ := hB3
  subst ht
  generalize t.heap = H3 at *
  have hq3 : ∀ q : Nat, q < ra → H3[q]? = H[q]? := fun q hq => (hk3 q (by omega) (by rintro (h | h) <;> omega)).trans (hq2 q hq)
  have hf3 : Pf csA (va_cpy (txf csA) (fun _ => 0) 0 0 csA.length) := Pf.app (cs := []) (ds := csA) (f := fun _ => 0) (fun j hj => absurd hj (Nat.not_lt_zero j))
  refine lv_iload hx hb dL_law_57 (lv_at hl 6 rfl) ?_
  refine va_callr (tt_W (C := RJ4) (As := [.int (nI n)]) (rest := [.ref lx]) S (va_recv (q := (RJ4, TJ4, 4)) (ci := 6) hK hP3 rfl (show (SBw cA ra v9 (0 + csA.length) (va_cpy (txf csA) (fun _ => 0) 0 0 csA.length))[0]? = some (ra, .inr (6, _)) from rfl)) (B := sbM D cA ra v9 csA.length (va_cpy (txf csA) (fun _ => 0) 0 0 csA.length)) (fun U hU hW9 => ⟨by rw [hU]; exact hP3, va_K.moved hW9.alike hK, hSx.at hS3 hAB hU hW9, hDg.at hS3 hAB hU hW9⟩) sbM.bl (c_J4_appendI l hf3 (by show 4 + (dgs n).length ≤ 16; omega) hn hbv) to_J4_append_bf812 rfl tl_L_154 ⟨(Nat.le_of_ble_eq_true rfl), (Nat.le_of_ble_eq_true rfl)⟩ rfl hl.1 rfl (Nat.le_of_ble_eq_true rfl) dL_law_59 ⟨(Nat.le_of_ble_eq_true rfl), (Nat.le_of_ble_eq_true rfl)⟩) hS3 (fun q _ h => hAB q h) hAB (fun u4 rb t H4 locs4 ht _ hu4 hB4 hz4 hk4 hS4 => ?_)
  obtain ⟨rfl, hP4⟩ := hB4
  subst ht
  generalize t.heap = H4 at *
  have hq4 : ∀ q : Nat, q < rb → H4[q]? = H[q]? := fun q hq => (hk4 q (by omega) (by rintro (h | h) <;> omega)).trans (hq3 q hq)
  obtain ⟨a2, v2, r2, t2⟩ := hLit _ (List.mem_of_getElem? (show lits[1]? = some (157, "/5;x0;s01", csC) from rfl))
  refine va_ldcS hx hb S.2.2.2.1 r2 dL_law_62 ?_
  have hln : (csA ++ dgs n).length = csA.length + (dgs n).length := List.length_append
  rw [← hln] at hP4
  refine va_callr (tt_W (C := RJ4) (As := [.ref a2]) (rest := [.ref lx]) S (va_recv (q := (RJ4, TJ4, 4)) (ci := 6) hK hP4 rfl (show (SBw cA rb v9 (csA ++ dgs n).length u4)[0]? = some (rb, .inr (6, _)) from rfl)) (sbT.at hP4 hK hSx t2 hS4 hAB) sbT.bl (c_J4_append l (asc rfl) (by rw [hln]; show 4 + (dgs n).length + 9 ≤ 16; omega) hbv) to_J4_append_15ec4 rfl tl_L_90 ⟨(Nat.le_of_ble_eq_true rfl), (Nat.le_of_ble_eq_true rfl)⟩ rfl hl.1 rfl (Nat.le_of_ble_eq_true rfl) dL_law_64 ⟨(Nat.le_of_ble_eq_true rfl), (Nat.le_of_ble_eq_true rfl)⟩) hS4 (fun q _ h => hAB q h) hAB (fun u ra5 t H5 locs5 ht _ _ hB5 hz5 hk5 hS5 => ?_)
  obtain ⟨rfl, hP5⟩ := hB5
  subst ht
  generalize t.heap = H5 at *
  have hq5 : ∀ q : Nat, q < ra5 → H5[q]? = H[q]? := fun q hq => (hk5 q (by omega) (by rintro (h | h) <;> omega)).trans (hq4 q hq)
  have hf5 : Pf (csS n) (va_cpy (txf csC) u4 0 (csA ++ dgs n).length csC.length) := Pf.app hu4
  have hlS : (csS n).length = (csA ++ dgs n).length + csC.length := List.length_append
  have ha5 := csS_asc n hn
  rw [← hlS] at hP5
  have hAT : ∀ q, (q = ra5 ∨ q = v9 ∨ H5.size ≤ q) → A0 s.heap.size q := fun q h => A0_iff.mpr (by rcases h with h | h | h <;> omega)
  refine va_callr (tt_W (C := RJ4) (As := []) (rest := [.ref lx]) S (va_recv (q := (RJ4, TJ4, 4)) (ci := 6) hK hP5 rfl (show (SBw cA ra5 v9 (csS n).length _)[0]? = some (ra5, .inr (6, _)) from rfl)) (B := tsB D cA ra5 v9 (csS n).length H5.size (va_cpy (txf csC) u4 0 (csA ++ dgs n).length csC.length)) (fun U hU hW9 => ⟨by rw [hU]; exact hP5, va_K.moved hW9.alike hK, hSx.at hS5 hAT hU hW9, va_Nw.warmC hW9 hNc, by rw [hU]⟩) tsB.bl (c_J4_toString l (by rw [hlS, hln]; show 4 + (dgs n).length + 9 ≤ 16; omega) (fun j hj => by rw [hf5 j hj]; exact fit128 _ ((asc ha5).at j)) hbv) to_J4_toString_0e30d rfl tl_L_96 ⟨(Nat.le_of_ble_eq_true rfl), (Nat.le_of_ble_eq_true rfl)⟩ rfl hl.1 rfl (Nat.le_of_ble_eq_true rfl) dL_law_67 ⟨(Nat.le_of_ble_eq_true rfl), (Nat.le_of_ble_eq_true rfl)⟩) hS5 (fun q _ h => hAT q h) hAT (fun u6 a6 t H6 locs6 ht _ hu6 hB6 hz6 hk6 hS6 => ?_)
  subst ht
  generalize t.heap = H6 at *
  obtain ⟨ha6, hP6⟩ := hB6
  have hq6 : ∀ q : Nat, q < ra5 → H6[q]? = H[q]? := fun q hq => (hk6 q (by omega) (by rintro (h | h | h) <;> omega)).trans (hq5 q hq)
  have hL6 : Two D cA s lx ly wx wy H6 locs6 := hL.at (by rw [hbe]; exact hq6) hS6
  have ha6s : a6 < H6.size := (hP6 0 _ rfl).lt
  have hu6s : u6.1 < H6.size := (hP6 1 _ rfl).lt
  have hu61 := hu6.1
  refine lx_put hK hEx S hL6 hSx ⟨(Nat.le_of_ble_eq_true rfl), (Nat.le_of_ble_eq_true rfl)⟩ hl.1 (Nat.le_of_ble_eq_true rfl) ml_L_159 (v := u6.1) (fun U hU hW9 => ((tx_of (A := Ab (lx, lx + 26, H6.size)) S.2.2.2.2 (inC_J0 _) hK hP6 (nAb (by omega) ha6s) (nAb (by omega) hu6s)).congr (fun j hj => (hu6.2 j hj).trans (hf5 j hj))).moved hW9.alike |> fun z => by rw [hU]; exact z) (fun P hA hn9 => c_L_put l P hA hn9 (asc ha5) wx h) ok_L_put rfl dL_law_70 ⟨(Nat.le_of_ble_eq_true rfl), (Nat.le_of_ble_eq_true rfl)⟩ (fun H7 locs7 hL7 => ?_)
  refine W.widen (k := 1200) (n := 9000) (Nat.le_of_ble_eq_true rfl) (Nat.le_of_ble_eq_true rfl) ?_
  exact K _ _ _ hL7 hl
end SB
