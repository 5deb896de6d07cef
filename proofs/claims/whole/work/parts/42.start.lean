/-! THE LAW'S ENTRY: what the Statement gives, the two objects, the two rows -/
theorem st_words : Cond.laysStatic Bundle.tN "UNASSIGNED_STACK" Bundle.steD ∈ lw_tbl ∧ Cond.laysStatic Bundle.tN "SUPPRESSED_SENTINEL" Bundle.listD ∈ lw_tbl ∧ Cond.initialized Bundle.tN ∈ lw_tbl ∧ Cond.arrayOver (.object "VowelTorus$Board") ∈ lw_tbl := ⟨by decide +kernel, by decide +kernel, by decide +kernel, by decide +kernel⟩
theorem st_arrs : Cond.arrayClass .int ∈ lw_tbl ∧ Cond.arrayClass .long ∈ lw_tbl ∧ Cond.arrayClass .char ∈ lw_tbl ∧ Cond.arrayClass .double ∈ lw_tbl := ⟨by decide +kernel, by decide +kernel, by decide +kernel, by decide +kernel⟩
theorem st_strs : ∀ q ∈ strs, Cond.stringRef RX5 q.1 q.2 ∈ lw_tbl := by decide +kernel
theorem st_one : ∀ q ∈ strs, ∀ r ∈ strs, q.1 = r.1 → q = r := by decide +kernel
theorem st_nests : ∀ q ∈ nests, Cond.methodLinkNest q.1 q.2.1 q.2.2.1 q.2.2.2 ∈ lw_tbl := by decide +kernel
theorem st_nests2 : ∀ q ∈ nests, (Cond.methodLinkNest q.1 q.2.1 q.2.2.1 q.2.2.2).onTables = true := by decide +kernel
theorem st_nocs : ∀ q ∈ nocs, Cond.not (.castable q.1 q.2) ∈ flatC (Jvm.Cond.and given_1 narrow_1) := by decide +kernel
theorem st_exw : ∀ q ∈ exw, q ∈ lw_tbl := by decide +kernel
theorem st_refs : Cond.isRef (.static Bundle.tN "UNASSIGNED_STACK" Bundle.steD) ∈ flatC (Jvm.Cond.and given_1 narrow_1) ∧ Cond.isRef (.static Bundle.tN "SUPPRESSED_SENTINEL" Bundle.listD) ∈ flatC (Jvm.Cond.and given_1 narrow_1) := ⟨by decide +kernel, by decide +kernel⟩
theorem st_insts : Cond.instantiable RX0 11 ∈ lw_tbl ∧ Cond.instantiable RX1 8 ∈ lw_tbl ∧ Cond.instantiable RX2 3 ∈ lw_tbl ∧ Cond.instantiable RX3 2 ∈ lw_tbl ∧ Cond.instantiable RX4 7 ∈ lw_tbl ∧ Cond.instantiable RX5 13 ∈ lw_tbl ∧ Cond.instantiable RX6 21 ∈ lw_tbl := ⟨by decide +kernel, by decide +kernel, by decide +kernel, by decide +kernel, by decide +kernel, by decide +kernel, by decide +kernel⟩
theorem allT {w : Cond} (h : w ∈ ALLW) : w ∈ lw_tbl := (List.mem_filter.mp h).1
theorem kl_L_8 : Cond.classLink RL 8 RX5 ∈ ALLW := List.mem_filter.mpr ⟨by decide +kernel, by decide +kernel⟩
theorem kl_L_123 : Cond.classLink RL 123 RX6 ∈ ALLW := List.mem_filter.mpr ⟨by decide +kernel, by decide +kernel⟩
theorem in_X5 : Cond.instantiable RX5 13 ∈ ALLW := List.mem_filter.mpr ⟨by decide +kernel, by decide +kernel⟩
theorem in_X6 : Cond.instantiable RX6 21 ∈ ALLW := List.mem_filter.mpr ⟨by decide +kernel, by decide +kernel⟩
theorem ii_X5 : Cond.initialized RX5 ∈ ALLW := List.mem_filter.mpr ⟨by decide +kernel, by decide +kernel⟩
theorem ii_X6 : Cond.initialized RX6 ∈ ALLW := List.mem_filter.mpr ⟨by decide +kernel, by decide +kernel⟩
theorem ii_X0t : Cond.initialized RX0 ∈ lw_tbl := by decide +kernel
theorem ac_dbl : Cond.arrayClass .double ∈ ALLW := List.mem_filter.mpr ⟨by decide +kernel, by decide +kernel⟩
theorem ml_L_122 : Cond.methodLink RL 122 yX5_init ∈ ALLW := List.mem_filter.mpr ⟨by decide +kernel, by decide +kernel⟩
theorem ml_L_125 : Cond.methodLink RL 125 yX6_init ∈ ALLW := List.mem_filter.mpr ⟨by decide +kernel, by decide +kernel⟩
theorem ok_X5_init : okI yX5_init cX5_init 1 0 := ⟨List.mem_filter.mpr ⟨by decide +kernel, by decide +kernel⟩, List.mem_filter.mpr ⟨by decide +kernel, by decide +kernel⟩, List.mem_filter.mpr ⟨by decide +kernel, by decide +kernel⟩, by decide +kernel, by decide +kernel, by decide +kernel, rfl⟩
theorem ok_X6_init : okI yX6_init cX6_init 1 0 := ⟨List.mem_filter.mpr ⟨by decide +kernel, by decide +kernel⟩, List.mem_filter.mpr ⟨by decide +kernel, by decide +kernel⟩, List.mem_filter.mpr ⟨by decide +kernel, by decide +kernel⟩, by decide +kernel, by decide +kernel, by decide +kernel, rfl⟩
theorem flX6_all : ∀ j b, G_X6 G_X5 j b = true := by
  intro j b
  by_cases hm : (j, b) ∈ refs
  · have hz : ∀ q ∈ refs, G_X6 G_X5 q.1 q.2 = true := by decide +kernel
    exact hz _ hm
  · have h0 : fl0 j b = true := by simp [fl0, hm]
    unfold G_X6 G_X5 G_X1 G_X2 G_X3 G_X4
    repeat (first | exact h0 | apply upF_true)
section VSt
variable {p : Program} {l : Launch} {e : Env} {R : Room} {s : State} {m : MethodId} {args : Array Value} {below : List Frame} {meth : Method} {c : Code} {H : Heap} {locs : List Loc} {cells slots : Nat} {Q : State → Prop} {g : JFrame}
/-- how large the heap can be -/
theorem W_size (kk : H.size ≤ s.heap.size + cells → W p l e R s m args below meth c H locs cells slots Q g) : W p l e R s m args below meth c H locs cells slots Q g := by
  intro T hT X
  have h := X.same.2.2.1
  have h2 : H.size ≤ s.heap.size + cells := by
    rw [← hT]
    exact h
  exact kk h2 T hT X
end VSt
theorem st_arr {s : State} {args : Array Value} {ty : FieldType} (h : (Cond.arrayClass ty).before args s = true) (hra : ∀ U cA, U.vm.findClass ("[" ++ ty.toString) = some cA → va_RA U cA ty) : ∃ cA, ArrOfT s cA ty ∧ va_RA s cA ty := by
  obtain ⟨cA, k, comp, h1, h2, h3⟩ := Cond.arrayClass_spec (args := args) (first := s) (o := none) (idx := []) h
  exact ⟨cA, fun n z => ⟨fun k h => (by cases h), k, h2, comp, h3⟩, hra s cA h1⟩
theorem st_arrO {s : State} {args : Array Value} {C : String} (h : (Cond.arrayOver (.object C)).before args s = true) : ∃ cA, ArrOfT s cA (.object C) ∧ va_RA s cA (.object C) := by
  obtain ⟨comp, cA, k, h1, -, h2, h3, h4⟩ := Cond.arrayOver_spec (args := args) (first := s) (o := none) (idx := []) h
  exact ⟨cA, fun n z => ⟨fun k h => (by cases h), k, h2, comp, h3⟩, k, comp, h2, h3, h1, h4⟩
theorem st_K {s : State} {args : Array Value} (hts : ∀ w ∈ lw_tbl, w.before args s = true) : ∃ (D : va_G) (cA : Nat → ClassId), va_K D vc (tyl cA) s := by
  obtain ⟨c0, i0, k0⟩ := u_known (C := RX0) (T := TX0) (N := 11) (n := 11) hts (fun w h => allT (inA_X0 w h)) (hts _ st_insts.1)
  obtain ⟨c1, i1, k1⟩ := u_known (C := RX1) (T := TX1) (N := 8) (n := 8) hts (fun w h => allT (inA_X1 w h)) (hts _ st_insts.2.1)
  obtain ⟨c2, i2, k2⟩ := u_known (C := RX2) (T := TX2) (N := 3) (n := 3) hts (fun w h => allT (inA_X2 w h)) (hts _ st_insts.2.2.1)
  obtain ⟨c3, i3, k3⟩ := u_known (C := RX3) (T := TX3) (N := 2) (n := 2) hts (fun w h => allT (inA_X3 w h)) (hts _ st_insts.2.2.2.1)
  obtain ⟨c4, i4, k4⟩ := u_known (C := RX4) (T := TX4) (N := 7) (n := 7) hts (fun w h => allT (inA_X4 w h)) (hts _ st_insts.2.2.2.2.1)
  obtain ⟨c5, i5, k5⟩ := u_known (C := RX5) (T := TX5) (N := 13) (n := 13) hts (fun w h => allT (inA_X5 w h)) (hts _ st_insts.2.2.2.2.2.1)
  obtain ⟨c6, i6, k6⟩ := u_known (C := RX6) (T := TX6) (N := 21) (n := 21) hts (fun w h => allT (inA_X6 w h)) (hts _ st_insts.2.2.2.2.2.2)
  obtain ⟨a0, ha0⟩ := st_arr (hts _ st_arrs.1) (fun _ _ h => h)
  obtain ⟨a1, ha1⟩ := st_arr (hts _ st_arrs.2.1) (fun _ _ h => h)
  obtain ⟨a2, ha2⟩ := st_arr (hts _ st_arrs.2.2.1) (fun _ _ h => h)
  obtain ⟨a3, ha3⟩ := st_arr (hts _ st_arrs.2.2.2) (fun _ _ h => h)
  obtain ⟨a4, ha4⟩ := st_arrO (hts _ st_words.2.2.2)
  refine ⟨(fun k => match k with | 0 => c0 | 1 => c1 | 2 => c2 | 3 => c3 | 4 => c4 | 5 => c5 | _ => c6, fun k => match k with | 0 => i0 | 1 => i1 | 2 => i2 | 3 => i3 | 4 => i4 | 5 => i5 | _ => i6), fun k => match k with | 0 => a0 | 1 => a1 | 2 => a2 | 3 => a3 | _ => a4, fun k q hq => ?_, fun k q hq => ?_⟩
  · match k, hq with
    | 0, hq => cases hq; exact k0
    | 1, hq => cases hq; exact k1
    | 2, hq => cases hq; exact k2
    | 3, hq => cases hq; exact k3
    | 4, hq => cases hq; exact k4
    | 5, hq => cases hq; exact k5
    | 6, hq => cases hq; exact k6
    | k + 7, hq => simp [vc] at hq
  · match k, hq with
    | 0, hq => cases hq; exact ha0
    | 1, hq => cases hq; exact ha1
    | 2, hq => cases hq; exact ha2
    | 3, hq => cases hq; exact ha3
    | 4, hq => cases hq; exact ha4
    | k + 5, hq => simp [tyl] at hq
theorem st_sa {s : State} {args : Array Value} (hts : ∀ w ∈ lw_tbl, w.before args s = true) {c5 : ClassId} (hc : s.vm.findClass RX5 = some c5) : ∃ sa : Nat → Nat, ∀ q ∈ strs, vk_R RX5 q.1 q.2 (sa q.1) s := by
  have h1 : ∀ q ∈ strs, ∃ a, vk_R RX5 q.1 q.2 a s := by
    intro q hq
    have h := hts _ (st_strs q hq)
    obtain ⟨k, cf, i, a, -, -, -, -, -, hev⟩ := Cond.stringRef_spec (args := args) (first := s) (o := none) (idx := []) hc h
    exact ⟨a, vk_R.of h hev⟩
  classical
  refine ⟨fun k => if hk : ∃ q, q ∈ strs ∧ q.1 = k then Classical.choose (h1 _ (Classical.choose_spec hk).1) else 0, fun q hq => ?_⟩
  have hk : ∃ q', q' ∈ strs ∧ q'.1 = q.1 := ⟨q, hq, rfl⟩
  show vk_R RX5 q.1 q.2 (if hk : ∃ q', q' ∈ strs ∧ q'.1 = q.1 then Classical.choose (h1 _ (Classical.choose_spec hk).1) else 0) s
  rw [dif_pos hk]
  have e := st_one _ (Classical.choose_spec hk).1 q hq (Classical.choose_spec hk).2
  have h2 := Classical.choose_spec (h1 _ (Classical.choose_spec hk).1)
  generalize Classical.choose (h1 _ (Classical.choose_spec hk).1) = a at h2 ⊢
  rw [e] at h2
  exact h2
theorem st_Ex {s : State} {b : Nat} (hts : ∀ w ∈ lw_tbl, w.before #[Value.ref b] s = true) (hgv : (Jvm.Cond.and given_1 narrow_1).before #[Value.ref b] s = true) {sa : Nat → Nat} (hsa : ∀ q ∈ strs, vk_R RX5 q.1 q.2 (sa q.1) s) : Ex s.heap.size sa s := by
  have hg := flat_of_before _ hgv
  refine ⟨vx_Zqof (hts _ st_words.1) (hts _ st_words.2.2.1) (hg _ st_refs.1) (fun a h1 h2 => absurd h2 (Nat.not_le.mpr h1)), vx_Zqof (hts _ st_words.2.1) (hts _ st_words.2.2.1) (hg _ st_refs.2) (fun a h1 h2 => absurd h2 (Nat.not_le.mpr h1)), hsa, fun q hq => va_Nw.of (st_nests2 q hq) (hts _ (st_nests q hq)), fun q hq => va_Nc.of (hg _ (st_nocs q hq)), fun q hq => va_Nw.of (exw_tab q hq) (hts _ (st_exw q hq))⟩
set_option maxRecDepth 100000 in
set_option maxHeartbeats 4000000 in
theorem law_start {I : Wo → Prop} (hpure : ∀ w t x1 x2 x3, I w → ∃ w', F_K w t x1 x2 x3 = some w' ∧ I w') {w1 w2 : Wo} (hw1 : F_X0_lay N_X5 3 3 = some w1) (hf1 : Fr 26 w1) (hw2 : F_X6_lays (N_X6 w1) 3 3 = some w2) (hf2 : Fr 36 w2) (hI0 : I w2)
    {p : Program} {e : Env} {s : State} {m : MethodId} {below : List Frame} {meth : Method} {c : Code} (l : Launch) (hflags : l.flags = flags0) {b L : Nat} {xs : Nat → Int32} (hL : L ≤ 2048) (C0 : lw_At p s m meth c b L xs) : W p l e room_1 s m #[Value.ref b] below meth c s.heap [] 0 0 (lw_Z below #[Value.ref b] s) (entryFrame m ([Value.ref b] : List Value).toArray 10) := by
  obtain ⟨hx, hb, hr, hml, hown, hts, hX, hbl, hk, hgv⟩ := C0
  have hst : l.stackTraces = false := by
    show (!l.flags.contains noTraceFlag) = false
    rw [hflags]
    decide
  obtain ⟨D, cA, hK⟩ := st_K hts
  obtain ⟨sa, hsa⟩ := st_sa hts (hK.1 5 _ rfl).2.1
  have hEx := st_Ex hts hgv hsa
  obtain ⟨P, hPd⟩ : ∃ P : Pl, P = (D, (fun k => s.heap.size + k), cA, 38, s.heap.size, sa) := ⟨_, rfl⟩
  have hup : ∀ k, P.2.1 (k + 1) = P.2.1 k + 1 := by intro k; rw [hPd]; rfl
  have had : ∀ k, P.2.1 k = s.heap.size + k := by intro k; rw [hPd]
  have hn0 : P.2.2.2.2.1 = s.heap.size := by rw [hPd]
  have hU : Up P := by rw [hPd]; exact ⟨fun i j h => Nat.add_lt_add_left h _, fun i => Nat.le_add_right _ _⟩
  have hF : Fc P s := by
    rw [hPd]
    exact ⟨Nat.le_refl _, hK, hEx, ⟨fun i j h => Nat.add_lt_add_left h _, fun i => Nat.le_add_right _ _⟩, va_AO.of (hts _ st_words.2.2.2)⟩
  have hP0 : SC (Pn P 0) s fl0 w0 s.heap [] := by
    rw [hPd]
    exact ⟨⟨fun k q h => by simp [wc] at h, rfl⟩, va_S.rf⟩
  have hbA : ¬ Ab P.2.2.2.2.1 b := by rw [hn0]; exact Nat.not_le.mpr hbl
  have S : CallFix p m c cL_law 10 s #[Value.ref b] (Cond.initialized RX0 :: ALLW) RL := by
    refine ⟨hx, hb, hml, hown, fun w h => ?_⟩
    rcases List.mem_cons.mp h with rfl | h
    · exact hts _ ii_X0t
    · exact hts _ (allT h)
  have hl := lv_entry ([.ref b]) (n := 10) (Nat.le_of_ble_eq_true rfl)
  rw [lg_entry_eq]
  generalize (lg_sl ([.ref b]) ++ List.replicate (10 - (lg_sl ([.ref b])).length) Slot.unset).toArray = ls at hl ⊢
  have hl : lv_has ls 10 [(0, .ref b)] := hl
  refine vk_new (n := 0) S (hF.n 0) hP0 rfl rfl (by decide) rfl (inC_X5 _) tyX5 tyX5_ok df_X5 (fun k => ⟨rfl, rfl⟩) rfl kl_L_8 in_X5 ii_X5 (hup 0) (Nat.le_of_ble_eq_true rfl) (Nat.le_of_ble_eq_true rfl) dL_law_0 (fun H hP => ?_)
  refine lv_dup hx hb dL_law_3 rfl ?_
  refine va_callv (va_runI (As := []) S (c_X5_init l P hU (fun k _ => hup k) hw1) (cwI 0 S.2.2.2.2 (consG ok_X5_init.2.2.1 allG) rfl rfl rfl (S.2.2.2.2 _ (List.mem_cons_of_mem _ ok_X5_init.2.1)) (S.2.2.2.2 _ (List.mem_cons_of_mem _ ml_L_122)) (S.2.2.2.2 _ (List.mem_cons_of_mem _ ok_X5_init.1)) rfl ⟨ok_X5_init.2.2.2.1, ok_X5_init.2.2.2.2.1, ok_X5_init.2.2.2.2.2.1⟩ ⟨Nat.le_of_ble_eq_true rfl, Nat.le_of_ble_eq_true rfl⟩) (vk_pre (P := Pn P 1) (hF.n 1) hP) rfl rfl hl.1 rfl (lv_room (Nat.le_of_ble_eq_true rfl)) dL_law_4 ⟨Nat.le_of_ble_eq_true rfl, Nat.le_of_ble_eq_true rfl⟩) hP.2 (fun _ _ h => h) (fun _ h => h) (fun u t H locs ht _ hw hB _ _ hS => ?_)
  subst hw
  subst ht
  refine W_size (fun hsz => ?_)
  have hlt : P.2.1 25 < t.heap.size := vx_lt hB (k := 25) (wl_at (show 25 < 26 by decide))
  have hP : SC (Pn P 26) s G_X5 u t.heap locs := by
    refine ⟨⟨?_, ?_⟩, hS⟩
    · show va_P P.1 vc (wc G_X5 P.2.1 P.2.2.1 26 u) t.heap
      rw [wc_wl (fun j hj => cec_all (flX5_all j hj))]
      exact hB
    · show t.heap.size = P.2.1 26
      rw [had] at hlt ⊢
      omega
  generalize t.heap = H at hP ⊢
  refine lv_astore_n (lv' := [(1, .ref (P.2.1 0)), (0, .ref b)]) hx hb dL_law_7 rfl hl (by decide) rfl (fun ls hl => ?_)
  refine vk_new (n := 26) S (hF.n 26) hP rfl rfl (by decide) rfl (inC_X6 _) tyX6 tyX6_ok df_X6 (fun k => ⟨(hf1 26 k (Nat.le_refl _)).1, (hf1 26 k (Nat.le_refl _)).2.1⟩) rfl kl_L_123 in_X6 ii_X6 (hup 26) (Nat.le_of_ble_eq_true rfl) (Nat.le_of_ble_eq_true rfl) dL_law_8 (fun H hP => ?_)
  refine lv_dup hx hb dL_law_11 rfl ?_
  refine va_callv (va_runI (As := []) S (c_X6_init l P hU (fun k _ _ => hup k) G_X5 _ (hf1.mono (by decide)) (fun j _ b => flX6_all j b) hw2) (cwI 0 S.2.2.2.2 (consG ok_X6_init.2.2.1 allG) rfl rfl rfl (S.2.2.2.2 _ (List.mem_cons_of_mem _ ok_X6_init.2.1)) (S.2.2.2.2 _ (List.mem_cons_of_mem _ ml_L_125)) (S.2.2.2.2 _ (List.mem_cons_of_mem _ ok_X6_init.1)) rfl ⟨ok_X6_init.2.2.2.1, ok_X6_init.2.2.2.2.1, ok_X6_init.2.2.2.2.2.1⟩ ⟨Nat.le_of_ble_eq_true rfl, Nat.le_of_ble_eq_true rfl⟩) (vk_pre (P := Pn P 27) (hF.n 27) hP) rfl rfl hl.1 rfl (lv_room (Nat.le_of_ble_eq_true rfl)) dL_law_12 ⟨Nat.le_of_ble_eq_true rfl, Nat.le_of_ble_eq_true rfl⟩) hP.2 (fun _ _ h => h) (fun _ h => h) (fun u2 t2 H locs ht _ hw hB _ _ hS => ?_)
  subst hw
  subst ht
  refine W_size (fun hsz => ?_)
  have hlt : P.2.1 35 < t2.heap.size := vx_lt hB (k := 35) (wl_at (show 35 < 36 by decide))
  have hP : SC (Pn P 36) s (G_X6 G_X5) u2 t2.heap locs := by
    refine ⟨⟨?_, ?_⟩, hS⟩
    · show va_P P.1 vc (wc (G_X6 G_X5) P.2.1 P.2.2.1 36 u2) t2.heap
      rw [wc_wl (fun j hj => cec_all (flX6_all j))]
      exact hB
    · show t2.heap.size = P.2.1 36
      rw [had] at hlt ⊢
      omega
  generalize t2.heap = H at hP ⊢
  refine lv_astore_n (lv' := [(2, .ref (P.2.1 26)), (1, .ref (P.2.1 0)), (0, .ref b)]) hx hb dL_law_15 rfl hl (by decide) rfl (fun ls hl => ?_)
  refine lv_iconst (v := 1) hx hb dL_law_16 (by decide) ?_
  refine vk_newa (n := 36) (t := 1) (K := 1) S (hF.n 36) hP rfl rfl rfl rfl (vk_cellL (n := 36) (N := 1) rfl (fun k => (hf2 36 k (Nat.le_refl _)).2.1)) (fun _ z => z) ac_long (hup 36) (by decide) (by decide) (by decide) (Nat.le_of_ble_eq_true rfl) (Nat.le_of_ble_eq_true rfl) dL_law_17 (fun H hP => ?_)
  refine lv_astore_n (lv' := [(3, .ref (P.2.1 36)), (2, .ref (P.2.1 26)), (1, .ref (P.2.1 0)), (0, .ref b)]) hx hb dL_law_19 rfl hl (by decide) rfl (fun ls hl => ?_)
  refine lv_iconst (v := 1) hx hb dL_law_20 (by decide) ?_
  refine vk_newa (n := 37) (t := 3) (K := 1) S (hF.n 37) hP rfl rfl rfl rfl (vk_cellD (n := 37) (N := 1) rfl (fun k => (hf2 37 k (by decide)).2.2)) (fun _ z => z) ac_dbl (hup 37) (by decide) (by decide) (by decide) (Nat.le_of_ble_eq_true rfl) (Nat.le_of_ble_eq_true rfl) dL_law_21 (fun H hP => ?_)
  refine lv_astore (lv' := [(4, .ref (P.2.1 37)), (3, .ref (P.2.1 36)), (2, .ref (P.2.1 26)), (1, .ref (P.2.1 0)), (0, .ref b)]) hx hb dL_law_23 hl (by decide) rfl (fun ls hl => ?_)
  refine lv_iconst (v := 0) hx hb dL_law_25 (by decide) ?_
  refine lv_istore (lv' := [(5, .int 0), (4, .ref (P.2.1 37)), (3, .ref (P.2.1 36)), (2, .ref (P.2.1 26)), (1, .ref (P.2.1 0)), (0, .ref b)]) hx hb dL_law_26 hl (by decide) rfl (fun ls hl => ?_)
  have hP2 := hP.st (fun j _ => cec_all (flX6_all j))
  have hl : lv_has ls 10 (lvL (Pn P 38) b (nI 0)) := hl
  exact law_loop hpure hst (hU.adr 38) (Nat.le_refl _) S (hF.n 38).fx hX hbl hbA (by rw [show (Pn P 38).2.2.2.2.1 = P.2.2.2.2.1 from rfl, hn0]; exact Nat.le_refl _) hr hk hL 512 0 _ _ _ _ _ _ (by omega) (Nat.zero_le _) hI0 hP2 hl (by omega) (by omega)
