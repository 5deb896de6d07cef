/-! THE LAW: a fresh puzzle; all pieces in a row -/
set_option maxRecDepth 100000 in
set_option maxHeartbeats 8000000 in
theorem s_Z0 {p : Program} {l : Launch} {e : Env} {s : State} {m : MethodId} {args : Array Value} {below : List Frame} {meth : Method} {c : Code} {Q : State → Prop} {b : Nat} {D : va_G} {cA : Nat → ClassId} {sa : Nat → Nat} {c0 : Cond} (hK : va_K D vc (tyl cA) s) (hEx : Ex (0, 0, s.heap.size) sa s) (hAO : va_AO "VowelTorus$Board" s) (S : CallFix p m c cL_law 11 s args (c0 :: ALLW) RL) {lx ly : Nat} {wx wy z0 : Wo} {x3 x4 x5 : Int32} (hw : F_X0_lay N_X5 3 3 = some z0)
    (K : ∀ (H : Heap) (locs : List Loc) (ls : Array Slot) (lz : Nat), Two D cA s lx lz wx z0 H locs → lv_has ls 11 [(0, .ref b), (1, .ref lx), (3, .int x3), (4, .int x4), (9, .int (jshr x5 (9 : Int32) &&& (63 : Int32))), (10, .ref lz)] → W p l e room_1 s m args below meth c H locs 1300 9900 Q (F0 m 448 ls [])) (H : Heap) (locs : List Loc) (ls : Array Slot) (hL : Two D cA s lx ly wx wy H locs) (hl : lv_has ls 11 [(0, .ref b), (1, .ref lx), (3, .int x3), (4, .int x4), (5, .int x5)]) : W p l e room_1 s m args below meth c H locs 1223 9138 Q (F0 m 429 ls []) := by
  have hx := S.1
  have hb := S.2.1
  have hLn : s.heap.size ≤ H.size := hL.2.2.2.2.1
  have hly : ly + 26 ≤ H.size := hL.2.2.2.1.top
  have hlx : lx + 26 ≤ ly := hL.2.1
  refine lv_iload hx hb dL_law_429 (lv_at hl 4 rfl) ?_
  refine lv_bipush (v := 9) hx hb dL_law_431 (by decide) ?_
  refine lv_ishr hx hb dL_law_433 ?_
  refine lv_bipush (v := 63) hx hb dL_law_434 (by decide) ?_
  refine lv_iand hx hb dL_law_436 ?_
  refine lv_istore (lv' := [(9, .int (jshr x5 (9 : Int32) &&& (63 : Int32))), (0, .ref b), (1, .ref lx), (3, .int x3), (4, .int x4), (5, .int x5)]) hx hb dL_law_437 hl (by decide) rfl (fun ls hl => ?_)
  obtain ⟨P, hPd⟩ : ∃ P : Pl, P = (D, (fun k => H.size + k), cA, 0, (0, 0, s.heap.size), sa) := ⟨_, rfl⟩
  have hF0 : Fc P s := by
    rw [hPd]
    exact ⟨Nat.le_refl _, hK, hEx, ⟨fun i j h => Nat.add_lt_add_left h _, fun i => Or.inr (Nat.le_trans hLn (Nat.le_add_right _ _))⟩, hAO⟩
  have hP0 : SC P s fl0 w0 H locs := by
    rw [hPd]
    exact ⟨⟨fun k q h => by simp [wc] at h, rfl⟩, hL.2.2.2.2⟩
  refine vk_newk (n := 0) S hF0 hP0 (by rw [hPd]) rfl (by decide) rfl (inC_X5 _) tyX5 tyX5_ok df_X5 (fun k => ⟨rfl, rfl⟩) rfl kl_L_18 in_X5 ii_X5 (by rw [hPd]; rfl) (Nat.le_of_ble_eq_true rfl) (Nat.le_of_ble_eq_true rfl) dL_law_439 (fun H1 z1 o1 hP1 => ?_)
  refine lv_dup hx hb dL_law_442 rfl ?_
  subst hPd
  have hS1 : va_S (A0 s.heap.size) s.heap H1 locs := hP1.2
  have hsub : ∀ q, Ab (0, 0, H.size) q → A0 s.heap.size q := sub_A0 hLn
  refine va_callv (tt_I (As := []) (rest := [.ref (H.size + 0)]) S (B := WpC (Pb D cA sa 1 H.size) fl0 w0) (fun U hU hW9 => ⟨by rw [hU, z1]; exact Nat.le_succ _, by rw [hU]; exact hP1.1, va_K.moved hW9.alike hK, (by
      have h1 := hEx.warm (U := U) hW9 (fun q h1 h2 => by rw [hU]; exact hS1.2.1 q h1 h2)
      exact h1.sub hsub), va_AO.moved hW9.alike hAO⟩) (fun U g mk a' h => ⟨h.1, h.2.1, va_K.moved (Vm.Alike.refl U.vm) h.2.2.1, h.2.2.2.1.same rfl rfl, va_AO.moved (Vm.Alike.refl U.vm) h.2.2.2.2⟩) (c_X5_init l (Pb D cA sa 0 H.size) Pb_up (fun _ _ => rfl) hw) ok_X5_init ml_L_23 ⟨(Nat.le_of_ble_eq_true rfl), (Nat.le_of_ble_eq_true rfl)⟩ rfl hl.1 rfl (Nat.le_of_ble_eq_true rfl) dL_law_443 ⟨(Nat.le_of_ble_eq_true rfl), (Nat.le_of_ble_eq_true rfl)⟩) hS1 (fun q _ h => hsub q h) hsub (fun u t H2 locs2 ht _ hw2 hB hz hk hS => ?_)
  subst hw2
  subst ht
  have hq2 : ∀ q : Nat, q < H.size → t.heap[q]? = H[q]? := fun q hq => (hk q (by omega) (fun h9 => absurd (A0_iff.mp h9) (Nat.not_le.mpr hq))).trans (o1 q hq)
  have hL2 : Two D cA s lx H.size wx u t.heap locs2 := ⟨hL.1, by omega, hL.2.2.1.kept9 (fun k hk9 => hq2 _ (hL.2.2.1.lt hk9)), hB, hS⟩
  generalize t.heap = H2 at hL2 ⊢
  refine lv_astore (lv' := [(10, .ref (H.size + 0)), (9, .int (jshr x5 (9 : Int32) &&& (63 : Int32))), (0, .ref b), (1, .ref lx), (3, .int x3), (4, .int x4), (5, .int x5)]) hx hb dL_law_446 hl (by decide) rfl (fun ls hl => ?_)
  refine W.widen (k := 1300) (n := 9900) (Nat.le_of_ble_eq_true rfl) (Nat.le_of_ble_eq_true rfl) ?_
  exact K _ _ _ _ hL2 (lv_sub hl [2, 3, 4, 5, 1, 0] rfl)
/-- what the law asks of the functions: that none of its answers is none -/
def LawOK (L : Nat) (xs : Nat → Int32) : Prop := ∃ (w0 : Wo) (rA : Int32 × Int32 × Int32 × Int32 × Int32 × Wo) (n : Nat) (w2 : Wo) (rC rD : Wo × Wo) (w5 w6 w7 w8 z0 z1 z2 z3 z4 z5 w9 : Wo), F_L_build L xs = some w0 ∧ F_S_A L xs w0 = some rA ∧ n < 1000 ∧ rA.2.2.2.1 = nI n ∧ puts rA.2.2.2.2.2 (csS n) = some w2 ∧ F_S_C w2 w0 (nI n) rA.2.2.2.2.1 = some rC ∧ F_S_D rC.1 rC.2 rA.2.1 = some rD ∧ F_S_E rD.1 rA.2.1 = some w5 ∧ F_S_F w5 rA.2.1 = some w6 ∧ F_S_G w6 = some w7 ∧ F_S_H w7 rA.2.1 = some w8 ∧ F_X0_lay N_X5 3 3 = some z0 ∧ F_S_Z1 z0 = some z1 ∧ F_S_Z2 z1 = some z2 ∧ F_S_Z3 z2 = some z3 ∧ F_S_Z4 z3 (jshr rA.2.2.1 (9 : Int32) &&& (63 : Int32)) = some z4 ∧ F_S_Z5 z4 = some z5 ∧ F_S_I w8 rA.1 rA.2.1 = some w9
set_option maxRecDepth 100000 in
set_option maxHeartbeats 8000000 in
theorem law_body {p : Program} {l : Launch} {e : Env} {s : State} {m : MethodId} {args : Array Value} {below : List Frame} {meth : Method} {c : Code} {Q : State → Prop} {b : Nat} {D : va_G} {cA : Nat → ClassId} {sa : Nat → Nat} {c0 : Cond} (hst : l.stackTraces = false) (hK : va_K D vc (tyl cA) s) (hEx : Ex (0, 0, s.heap.size) sa s) (hSx : SxA (A0 s.heap.size) s s.heap) (hLit : ∀ t ∈ lits, ∃ a v : Nat, vk_R RL t.1 t.2.1 a s ∧ TxA (A0 s.heap.size) a v t.2.2.length (txf t.2.2) s s.heap) (S : CallFix p m c cL_law 11 s args (c0 :: ALLW) RL) (hDg : DgA (A0 s.heap.size) s s.heap) (hNc : Ncl s) (hAO : va_AO "VowelTorus$Board" s) {L : Nat} {xs : Nat → Int32} (hL9 : L < 2 ^ 31) (hbl : b < s.heap.size) (hXs : ∀ (H : Heap) (locs : List Loc), va_S (A0 s.heap.size) s.heap H locs → ∀ U : State, U.heap = H → s.WarmedH U.vm → va_X b L xs U U.heap ∧ b < U.heap.size) (hok : LawOK L xs)
    (K : ∀ (H : Heap) (locs : List Loc) (ls : Array Slot), va_S (A0 s.heap.size) s.heap H locs → W p l e room_1 s m args below meth c H locs 1310 9960 Q (F0 m 1162 ls [.int 1])) (ls : Array Slot) (hl : lv_has ls 11 [(0, .ref b)]) : W p l e room_1 s m args below meth c s.heap [] 0 0 Q (F0 m 0 ls []) := by
  obtain ⟨w0, rA, n, w2, rC, rD, w5, w6, w7, w8, z0, z1, z2, z3, z4, z5, w9, e0, eA, hn, en, e2, eC, eD, e5, e6, e7, e8, f0, f1, f2, f3, f4, f5, e9⟩ := hok
  have hx := S.1
  have hb := S.2.1
  refine lv_aload_n hx hb dL_law_0 rfl (lv_at hl 0 rfl) ?_
  refine vb_build hst hK hEx hAO S hL9 hXs hbl va_S.rf e0 ⟨(Nat.le_of_ble_eq_true rfl), (Nat.le_of_ble_eq_true rfl)⟩ hl.1 (Nat.le_of_ble_eq_true rfl) dL_law_1 ⟨(Nat.le_of_ble_eq_true rfl), (Nat.le_of_ble_eq_true rfl)⟩ (fun H1 locs1 hO1 hq1 hS1 => ?_)
  refine lv_astore_n (lv' := [(1, .ref s.heap.size), (0, .ref b)]) hx hb dL_law_4 rfl hl (by decide) rfl (fun ls hl => ?_)
  refine lv_aload_n hx hb dL_law_5 rfl (lv_at hl 1 rfl) ?_
  refine vb_build hst hK hEx hAO S hL9 hXs hbl hS1 e0 ⟨(Nat.le_of_ble_eq_true rfl), (Nat.le_of_ble_eq_true rfl)⟩ hl.1 (Nat.le_of_ble_eq_true rfl) dL_law_6 ⟨(Nat.le_of_ble_eq_true rfl), (Nat.le_of_ble_eq_true rfl)⟩ (fun H2 locs2 hO2 hq2 hS2 => ?_)
  refine lv_astore_n (lv' := [(2, .ref H1.size), (1, .ref s.heap.size), (0, .ref b)]) hx hb dL_law_9 rfl hl (by decide) rfl (fun ls hl => ?_)
  have hL0 : Two D cA s s.heap.size H1.size w0 w0 H2 locs2 := ⟨Nat.le_refl _, hO1.top, hO1.kept9 (fun k hk => hq2 _ (hO1.lt hk)), hO2, hS2⟩
  refine W.widen (k := 1120) (n := 8400) (Nat.le_of_ble_eq_true rfl) (Nat.le_of_ble_eq_true rfl) ?_
  refine s_A hst hK hEx hSx hLit S hL9 hXs eA (fun H locs ls hL hl => ?_) _ _ _ hL0 (lv_sub hl [2, 1, 0] rfl)
  rw [en] at hl
  refine s_B hK hEx hSx hLit hDg hNc S hn e2 (fun H locs ls hL hl => ?_) _ _ _ hL hl
  refine s_C hst hK hEx hSx hLit S eC (fun H locs ls hL hl => ?_) _ _ _ hL hl
  refine s_D hst hK hEx hSx hLit S eD (fun H locs ls hL hl => ?_) _ _ _ hL hl
  refine s_E hst hK hEx hSx hLit S e5 (fun H locs ls hL hl => ?_) _ _ _ hL hl
  refine s_F hst hK hEx hSx hLit S e6 (fun H locs ls hL hl => ?_) _ _ _ hL hl
  refine s_G hst hK hEx hSx hLit S e7 (fun H locs ls hL hl => ?_) _ _ _ hL hl
  refine s_H hst hK hEx hSx hLit S e8 (fun H locs ls hL hl => ?_) _ _ _ hL hl
  refine s_Z0 hK hEx hAO S f0 (fun H locs ls lz hL hl => ?_) _ _ _ hL hl
  refine s_Z1 hst hK hEx hSx hLit S f1 (fun H locs ls hL hl => ?_) _ _ _ hL hl
  refine s_Z2 hst hK hEx hSx hLit S f2 (fun H locs ls hL hl => ?_) _ _ _ hL hl
  refine s_Z3 hst hK hEx hSx hLit S f3 (fun H locs ls hL hl => ?_) _ _ _ hL hl
  refine s_Z4 hst hK hEx hSx hLit S f4 (fun H locs ls hL hl => ?_) _ _ _ hL hl
  refine s_Z5 hst hK hEx hSx hLit S f5 (fun H locs ls hL hl => ?_) _ _ _ hL hl
  refine s_I hst hK hEx hSx hLit S e9 (fun H locs ls hL hl => ?_) _ _ _ hL hl
  exact K _ _ _ hL.2.2.2.2
