/-! THE CLAIM OUT OF ONE WALK OF THE LAW'S BODY. Your part is whole_start (and what it stands on); all else here is the same for every law, but numbers. -/
def R_law : String := "VowelTorusLaw"
def lw_P (b : Addr) (xs : List Int32) (args : Array Value) (s : State) : Prop := args = #[.ref b] ∧ s.IntsAt b xs ∧ xs.length ≤ 2048 ∧ (Jvm.Cond.and given_1 narrow_1).before args s = true
/-- what a walk over the start with the record d0 says of its end, said of the start itself -/
theorem lw_closed {s t : State} {o : Outcome} {d0 : Drawn} {L : List Loc} {k n : Nat} (hd0 : s.drawn.sameBut d0 lw_cs) (hv : ∃ v, o = .returned v) (hW : (s.setDrawn d0).WarmedH t.vm) (hs : (s.setDrawn d0).sameButNew ({ t with vm := s.vm } : State) L k n) : State.butDraws s t lw_cs (fun t1 => Framed s o t1 L k n) := by
  have h2 : t.drawn = d0 := congrArg State.drawn hs.1
  refine ⟨⟨hv, hW, State.sameButNew.setDrawn hs s.drawn⟩, ?_, by decide⟩
  rw [h2]
  exact hd0
def lw_Q (_ : Array Value) (s : State) (o : Outcome) (t : State) : Prop := o = .returned (some (.int 1)) ∧ State.butDraws s t lw_cs (fun t1 => Framed s o t1 [] 603072 7215210)
def lw_Z (below : List Frame) (a : Array Value) (s : State) : State → Prop := fun t => ∃ o, t.status = .running ∧ Ended t below o ∧ lw_Q a s o t
/-- the law's own end, with 1 on the stack, nothing written that was there before, its room as the claim has it; d0: the record of draws at this point (at the entry s.drawn: begin with 'refine W.base ?_' and 'have hd0 := Drawn.sameBut.refl s.drawn lw_cs') -/
theorem lw_ret {p : Program} {l : Launch} {e : Env} {s : State} {m : MethodId} {below : List Frame} {meth : Method} {c : Code} {b : Nat} {d0 : Drawn} (hd0 : s.drawn.sameBut d0 lw_cs) (hx : p.tables.exec = Jvm.exec) (hb : c.code = code) (hr : meth.sig.returnType = ret) (hlocks : meth.locks = false) {pc : Nat} {H : Heap} {ls : Array Slot} (hdg : decode code pc = .ok (.ireturn, 1)) : W p l e room_1 (s.setDrawn d0) m #[Value.ref b] below meth c H [] 603072 7215210 (lw_Z below #[Value.ref b] s) (F0 m pc ls [.int 1]) := by
  intro T hT X
  obtain ⟨fs, hret, hrun, hended, hW, hframe⟩ := X.leave (v := some (.int 1)) (hlocks := hlocks) (fun h => by rw [hr] at h; cases h)
  have hmeth' : T.vm.method? m = some meth := X.method'
  refine ⟨T.setFrames fs, ?_, .returned (some (.int 1)), hrun, hended, rfl, lw_closed hd0 ⟨_, rfl⟩ hW hframe⟩
  jvm_step X.here [X.here.top, hx, hb, hdg, hmeth', hr, ret, narrow_b1]
  (try refine ⟨rfl, ?_⟩); (try refine ⟨rfl, ?_⟩)
  first | (intro acts; rw [hret _ acts rfl rfl rfl]) | rw [hret _ _ rfl rfl rfl]
  exact Steps.refl _
/-- what holds at the law's entry: the machine, the code, the tables' words (any of lw_tbl by 'hts w (by decide +kernel)'), the script of L ints xs at the cell b, what the Statement gives of the start (any of its parts by flat_of_before) -/
def lw_At (p : Program) (s : State) (m : MethodId) (meth : Method) (c : Code) (b L : Nat) (xs : Nat → Int32) : Prop :=
  p.tables.exec = Jvm.exec ∧ c.code = code ∧ meth.sig.returnType = ret ∧ c.maxLocals = 10 ∧ s.vm.findClass R_law = some m.cls ∧ (∀ w ∈ lw_tbl, w.before #[Value.ref b] s = true) ∧ va_X b L xs s s.heap ∧ b < s.heap.size ∧ meth.locks = false ∧ (Jvm.Cond.and given_1 narrow_1).before #[Value.ref b] s = true
/-! THE LOOP -/
theorem lt4 {L j : Nat} (hL : L ≤ 2048) (hj : j ≤ 4096) : (Int32.ofNat L - 4 < nI j) ↔ L < j + 4 := by
  rw [Int32.lt_iff_toInt_lt, show (Int32.ofNat L - 4 : Int32) = nI L - nI 4 from rfl, pk_sub_toInt (by omega) (by omega), nI_toInt (by omega)]
  omega
set_option maxRecDepth 100000 in
set_option maxHeartbeats 4000000 in
theorem law_loop {I : Wo → Prop} (hpure : ∀ w t x1 x2 x3, I w → ∃ w', F_K w t x1 x2 x3 = some w' ∧ I w') {p : Program} {l : Launch} {e : Env} {s : State} {m : MethodId} {below : List Frame} {meth : Method} {c : Code} {P : Pl} {b L : Nat} {xs : Nat → Int32} {c0 : Cond} (hst : l.stackTraces = false) (hA : Adr P) (hn : 38 ≤ P.2.2.2.1) (S : CallFix p m c cL_law 10 s #[Value.ref b] (c0 :: ALLW) RL) (hF : Fx P s) (hX : va_X b L xs s s.heap) (hbl : b < s.heap.size) (hbA : ¬ Ab P.2.2.2.2.1 b) (hn0 : s.heap.size ≤ P.2.2.2.2.1) (hr : meth.sig.returnType = ret) (hk : meth.locks = false) (hL : L ≤ 2048) :
    ∀ (n j : Nat) (w : Wo) (H : Heap) (locs : List Loc) (cells slots : Nat) (ls : Array Slot), L < j + 4 * (n + 1) → j ≤ L + 4 → I w → St P s w H locs → lv_has ls 10 (lvL P b (nI j)) → cells + 2 * n ≤ 603072 → slots + 12 * n ≤ 7215210 →
      W p l e room_1 s m #[Value.ref b] below meth c H locs cells slots (lw_Z below #[Value.ref b] s) (F0 m 28 ls []) := by
  have hx := S.1
  have hb := S.2.1
  intro n
  induction n with
  | zero =>
    intro j w H locs cells slots ls hj hj2 hI hP hl hc hs
    refine lv_iload hx hb dL_law_28 (lv_at hl 0 rfl) ?_
    refine lv_aload_n hx hb dL_law_30 rfl (lv_at hl 5 rfl) ?_
    refine va_slen hx hb hX hbl hbA hP.2 dL_law_31 ?_
    refine lv_iconst (v := 4) hx hb dL_law_32 (by decide) ?_
    refine lv_isub hx hb dL_law_33 ?_
    refine lv_icmp_gt (tgt := 2164) hx hb dL_law_34 (by decide) (fun _ => ?_) (fun c9 => absurd ((lt4 hL (by omega)).mpr (by omega)) c9)
    refine lv_iconst (v := 1) hx hb dL_law_2164 (by decide) ?_
    refine W.widen (k := 603072) (n := 7215210) (by omega) (by omega) ?_
    refine va_forget (fun q hq => Nat.le_trans hn0 (hP.2.2.2 q hq)) ?_
    exact lw_ret (Drawn.sameBut.refl s.drawn lw_cs) hx hb hr hk dL_law_2165
  | succ n ih =>
    intro j w H locs cells slots ls hj hj2 hI hP hl hc hs
    refine lv_iload hx hb dL_law_28 (lv_at hl 0 rfl) ?_
    refine lv_aload_n hx hb dL_law_30 rfl (lv_at hl 5 rfl) ?_
    refine va_slen hx hb hX hbl hbA hP.2 dL_law_31 ?_
    refine lv_iconst (v := 4) hx hb dL_law_32 (by decide) ?_
    refine lv_isub hx hb dL_law_33 ?_
    refine lv_icmp_gt (tgt := 2164) hx hb dL_law_34 (by decide) (fun _ => ?_) (fun c9 => ?_)
    · refine lv_iconst (v := 1) hx hb dL_law_2164 (by decide) ?_
      refine W.widen (k := 603072) (n := 7215210) (by omega) (by omega) ?_
      refine va_forget (fun q hq => Nat.le_trans hn0 (hP.2.2.2 q hq)) ?_
      exact lw_ret (Drawn.sameBut.refl s.drawn lw_cs) hx hb hr hk dL_law_2165
    have hjL : j + 4 ≤ L := by
      have : ¬ L < j + 4 := fun q => c9 ((lt4 hL (by omega)).mpr q)
      omega
    have h1 : vp_in (nI j + 1) L := by
      rw [show nI j + 1 = nI (j + 1) from nI_add j 1]
      exact vp_in_nI (by omega) (by omega)
    have h2 : vp_in (nI j + 2) L := by
      rw [show nI j + 2 = nI (j + 2) from nI_add j 2]
      exact vp_in_nI (by omega) (by omega)
    have h3 : vp_in (nI j + 3) L := by
      rw [show nI j + 3 = nI (j + 3) from nI_add j 3]
      exact vp_in_nI (by omega) (by omega)
    refine lv_aload_n hx hb dL_law_37 rfl (lv_at hl 5 rfl) ?_
    refine lv_iload hx hb dL_law_38 (lv_at hl 0 rfl) ?_
    refine va_sld hx hb hX hbl hbA hP.2 (vp_in_nI (by omega) (by omega)) dL_law_40 ?_
    refine lv_bipush (v := 63) hx hb dL_law_41 (by decide) ?_
    refine lv_iand hx hb dL_law_43 ?_
    obtain ⟨w', h, hI'⟩ := hpure w (xs (Int32.toNatClampNeg (nI j)) &&& 63) (xs (Int32.toNatClampNeg (nI j + 1))) (xs (Int32.toNatClampNeg (nI j + 2))) (xs (Int32.toNatClampNeg (nI j + 3))) hI
    have kk : ∀ (H1 : Heap) (locs1 : List Loc) (ls1 : Array Slot), St P s w' H1 locs1 → lv_has ls1 10 (lvL P b (nI j)) → W p l e room_1 s m #[Value.ref b] below meth c H1 locs1 (cells + 2) (slots + 12) (lw_Z below #[Value.ref b] s) (F0 m 2158 ls1 []) := by
      intro H1 locs1 ls1 hP1 hl1
      have e4 : nI j + 4 = nI (j + 4) := nI_add j 4
      refine lv_iinc (v := nI j + 4) (lv' := [(5, .int (nI j + 4)), (4, .ref (P.2.1 37)), (3, .ref (P.2.1 36)), (2, .ref (P.2.1 26)), (1, .ref (P.2.1 0)), (0, .ref b)]) hx hb dL_law_2158 hl1 (k := 0) rfl rfl (by decide) rfl (fun ls hl => ?_)
      refine lv_goto (tgt := 28) hx hb dL_law_2161 (by decide) ?_
      rw [e4] at hl
      exact ih (j + 4) w' H1 locs1 (cells + 2) (slots + 12) ls (by omega) (by omega) hI' hP1 hl (by omega) (by omega)
    have hcc : cells + 2 ≤ room_1.cells := Nat.le_trans (show cells + 2 ≤ 603072 by omega) (Nat.le_of_ble_eq_true rfl)
    have hss : slots + 12 ≤ room_1.slots := Nat.le_trans (show slots + 12 ≤ 7215210 by omega) (Nat.le_of_ble_eq_true rfl)
    generalize (xs (Int32.toNatClampNeg (nI j)) &&& 63) = t at h ⊢
    unfold F_K at h
    by_cases c0 : t = 0
    · rw [if_pos c0] at h
      refine lv_tableIn (off := 172) (tgt := 216) hx hb dL_law_44 (by rw [c0]; decide) (by rw [c0]; decide) (by rw [c0]; rfl) (by decide) ?_
      exact k_0 hst hA hn S hF hX hbl hbA h1 h2 h3 h hP hl hcc hss kk
    rw [if_neg c0] at h
    by_cases c1 : t = 1
    · rw [if_pos c1] at h
      refine lv_tableIn (off := 240) (tgt := 284) hx hb dL_law_44 (by rw [c1]; decide) (by rw [c1]; decide) (by rw [c1]; rfl) (by decide) ?_
      exact k_1 hst hA hn S hF hX hbl hbA h1 h2 h3 h hP hl hcc hss kk
    rw [if_neg c1] at h
    by_cases c2 : t = 2
    · rw [if_pos c2] at h
      refine lv_tableIn (off := 310) (tgt := 354) hx hb dL_law_44 (by rw [c2]; decide) (by rw [c2]; decide) (by rw [c2]; rfl) (by decide) ?_
      exact k_2 hst hA hn S hF hX hbl hbA h1 h2 h3 h hP hl hcc hss kk
    rw [if_neg c2] at h
    by_cases c3 : t = 3
    · rw [if_pos c3] at h
      refine lv_tableIn (off := 380) (tgt := 424) hx hb dL_law_44 (by rw [c3]; decide) (by rw [c3]; decide) (by rw [c3]; rfl) (by decide) ?_
      exact k_3 hst hA hn S hF hX hbl hbA h1 h2 h3 h hP hl hcc hss kk
    rw [if_neg c3] at h
    by_cases c4 : t = 4
    · rw [if_pos c4] at h
      refine lv_tableIn (off := 436) (tgt := 480) hx hb dL_law_44 (by rw [c4]; decide) (by rw [c4]; decide) (by rw [c4]; rfl) (by decide) ?_
      exact k_4 hst hA hn S hF hX hbl hbA h1 h2 h3 h hP hl hcc hss kk
    rw [if_neg c4] at h
    by_cases c5 : t = 5
    · rw [if_pos c5] at h
      refine lv_tableIn (off := 504) (tgt := 548) hx hb dL_law_44 (by rw [c5]; decide) (by rw [c5]; decide) (by rw [c5]; rfl) (by decide) ?_
      exact k_5 hst hA hn S hF hX hbl hbA h1 h2 h3 h hP hl hcc hss kk
    rw [if_neg c5] at h
    by_cases c6 : t = 6
    · rw [if_pos c6] at h
      refine lv_tableIn (off := 567) (tgt := 611) hx hb dL_law_44 (by rw [c6]; decide) (by rw [c6]; decide) (by rw [c6]; rfl) (by decide) ?_
      exact k_6 hst hA hn S hF hX hbl hbA h1 h2 h3 h hP hl hcc hss kk
    rw [if_neg c6] at h
    by_cases c7 : t = 7
    · rw [if_pos c7] at h
      refine lv_tableIn (off := 635) (tgt := 679) hx hb dL_law_44 (by rw [c7]; decide) (by rw [c7]; decide) (by rw [c7]; rfl) (by decide) ?_
      exact k_7 hst hA hn S hF hX hbl hbA h1 h2 h3 h hP hl hcc hss kk
    rw [if_neg c7] at h
    by_cases c8 : t = 8
    · rw [if_pos c8] at h
      refine lv_tableIn (off := 679) (tgt := 723) hx hb dL_law_44 (by rw [c8]; decide) (by rw [c8]; decide) (by rw [c8]; rfl) (by decide) ?_
      exact k_8 hst hA hn S hF hX hbl hbA h1 h2 h3 h hP hl hcc hss kk
    rw [if_neg c8] at h
    by_cases c9 : t = 9
    · rw [if_pos c9] at h
      refine lv_tableIn (off := 735) (tgt := 779) hx hb dL_law_44 (by rw [c9]; decide) (by rw [c9]; decide) (by rw [c9]; rfl) (by decide) ?_
      exact k_9 hst hA hn S hF hX hbl hbA h1 h2 h3 h hP hl hcc hss kk
    rw [if_neg c9] at h
    by_cases c10 : t = 10
    · rw [if_pos c10] at h
      refine lv_tableIn (off := 791) (tgt := 835) hx hb dL_law_44 (by rw [c10]; decide) (by rw [c10]; decide) (by rw [c10]; rfl) (by decide) ?_
      exact k_10 hst hA hn S hF hX hbl hbA h1 h2 h3 h hP hl hcc hss kk
    rw [if_neg c10] at h
    by_cases c11 : t = 11
    · rw [if_pos c11] at h
      refine lv_tableIn (off := 854) (tgt := 898) hx hb dL_law_44 (by rw [c11]; decide) (by rw [c11]; decide) (by rw [c11]; rfl) (by decide) ?_
      exact k_11 hst hA hn S hF hX hbl hbA h1 h2 h3 h hP hl hcc hss kk
    rw [if_neg c11] at h
    by_cases c12 : t = 12
    · rw [if_pos c12] at h
      refine lv_tableIn (off := 910) (tgt := 954) hx hb dL_law_44 (by rw [c12]; decide) (by rw [c12]; decide) (by rw [c12]; rfl) (by decide) ?_
      exact k_12 hst hA hn S hF hX hbl hbA h1 h2 h3 h hP hl hcc hss kk
    rw [if_neg c12] at h
    by_cases c13 : t = 13
    · rw [if_pos c13] at h
      refine lv_tableIn (off := 982) (tgt := 1026) hx hb dL_law_44 (by rw [c13]; decide) (by rw [c13]; decide) (by rw [c13]; rfl) (by decide) ?_
      exact k_13 hst hA hn S hF hX hbl hbA h1 h2 h3 h hP hl hcc hss kk
    rw [if_neg c13] at h
    by_cases c14 : t = 14
    · rw [if_pos c14] at h
      refine lv_tableIn (off := 1026) (tgt := 1070) hx hb dL_law_44 (by rw [c14]; decide) (by rw [c14]; decide) (by rw [c14]; rfl) (by decide) ?_
      exact k_14 hst hA hn S hF hX hbl hbA h1 h2 h3 h hP hl hcc hss kk
    rw [if_neg c14] at h
    by_cases c15 : t = 15
    · rw [if_pos c15] at h
      refine lv_tableIn (off := 1039) (tgt := 1083) hx hb dL_law_44 (by rw [c15]; decide) (by rw [c15]; decide) (by rw [c15]; rfl) (by decide) ?_
      exact k_15 hst hA hn S hF hX hbl hbA h1 h2 h3 h hP hl hcc hss kk
    rw [if_neg c15] at h
    by_cases c16 : t = 16
    · rw [if_pos c16] at h
      refine lv_tableIn (off := 1118) (tgt := 1162) hx hb dL_law_44 (by rw [c16]; decide) (by rw [c16]; decide) (by rw [c16]; rfl) (by decide) ?_
      exact k_16 hst hA hn S hF hX hbl hbA h1 h2 h3 h hP hl hcc hss kk
    rw [if_neg c16] at h
    by_cases c17 : t = 17
    · rw [if_pos c17] at h
      refine lv_tableIn (off := 1131) (tgt := 1175) hx hb dL_law_44 (by rw [c17]; decide) (by rw [c17]; decide) (by rw [c17]; rfl) (by decide) ?_
      exact k_17 hst hA hn S hF hX hbl hbA h1 h2 h3 h hP hl hcc hss kk
    rw [if_neg c17] at h
    by_cases c18 : t = 18
    · rw [if_pos c18] at h
      refine lv_tableIn (off := 1187) (tgt := 1231) hx hb dL_law_44 (by rw [c18]; decide) (by rw [c18]; decide) (by rw [c18]; rfl) (by decide) ?_
      exact k_18 hst hA hn S hF hX hbl hbA h1 h2 h3 h hP hl hcc hss kk
    rw [if_neg c18] at h
    by_cases c19 : t = 19
    · rw [if_pos c19] at h
      refine lv_tableIn (off := 1231) (tgt := 1275) hx hb dL_law_44 (by rw [c19]; decide) (by rw [c19]; decide) (by rw [c19]; rfl) (by decide) ?_
      exact k_19 hst hA hn S hF hX hbl hbA h1 h2 h3 h hP hl hcc hss kk
    rw [if_neg c19] at h
    by_cases c20 : t = 20
    · rw [if_pos c20] at h
      refine lv_tableIn (off := 1311) (tgt := 1355) hx hb dL_law_44 (by rw [c20]; decide) (by rw [c20]; decide) (by rw [c20]; rfl) (by decide) ?_
      exact k_20 hst hA hn S hF hX hbl hbA h1 h2 h3 h hP hl hcc hss kk
    rw [if_neg c20] at h
    by_cases c21 : t = 21
    · rw [if_pos c21] at h
      refine lv_tableIn (off := 1379) (tgt := 1423) hx hb dL_law_44 (by rw [c21]; decide) (by rw [c21]; decide) (by rw [c21]; rfl) (by decide) ?_
      exact k_21 hst hA hn S hF hX hbl hbA h1 h2 h3 h hP hl hcc hss kk
    rw [if_neg c21] at h
    by_cases c22 : t = 22
    · rw [if_pos c22] at h
      refine lv_tableIn (off := 1442) (tgt := 1486) hx hb dL_law_44 (by rw [c22]; decide) (by rw [c22]; decide) (by rw [c22]; rfl) (by decide) ?_
      exact k_22 hst hA hn S hF hX hbl hbA h1 h2 h3 h hP hl hcc hss kk
    rw [if_neg c22] at h
    by_cases c23 : t = 23
    · rw [if_pos c23] at h
      refine lv_tableIn (off := 1455) (tgt := 1499) hx hb dL_law_44 (by rw [c23]; decide) (by rw [c23]; decide) (by rw [c23]; rfl) (by decide) ?_
      exact k_23 hst hA hn S hF hX hbl hbA h1 h2 h3 h hP hl hcc hss kk
    rw [if_neg c23] at h
    by_cases c24 : t = 24
    · rw [if_pos c24] at h
      refine lv_tableIn (off := 1511) (tgt := 1555) hx hb dL_law_44 (by rw [c24]; decide) (by rw [c24]; decide) (by rw [c24]; rfl) (by decide) ?_
      exact k_24 hst hA hn S hF hX hbl hbA h1 h2 h3 h hP hl hcc hss kk
    rw [if_neg c24] at h
    by_cases c25 : t = 25
    · rw [if_pos c25] at h
      refine lv_tableIn (off := 1524) (tgt := 1568) hx hb dL_law_44 (by rw [c25]; decide) (by rw [c25]; decide) (by rw [c25]; rfl) (by decide) ?_
      exact k_25 hst hA hn S hF hX hbl hbA h1 h2 h3 h hP hl hcc hss kk
    rw [if_neg c25] at h
    by_cases c26 : t = 26
    · rw [if_pos c26] at h
      refine lv_tableIn (off := 1537) (tgt := 1581) hx hb dL_law_44 (by rw [c26]; decide) (by rw [c26]; decide) (by rw [c26]; rfl) (by decide) ?_
      exact k_26 hst hA hn S hF hX hbl hbA h1 h2 h3 h hP hl hcc hss kk
    rw [if_neg c26] at h
    by_cases c27 : t = 27
    · rw [if_pos c27] at h
      refine lv_tableIn (off := 1593) (tgt := 1637) hx hb dL_law_44 (by rw [c27]; decide) (by rw [c27]; decide) (by rw [c27]; rfl) (by decide) ?_
      exact k_27 hst hA hn S hF hX hbl hbA h1 h2 h3 h hP hl hcc hss kk
    rw [if_neg c27] at h
    by_cases c28 : t = 28
    · rw [if_pos c28] at h
      refine lv_tableIn (off := 1649) (tgt := 1693) hx hb dL_law_44 (by rw [c28]; decide) (by rw [c28]; decide) (by rw [c28]; rfl) (by decide) ?_
      exact k_28 hst hA hn S hF hX hbl hbA h1 h2 h3 h hP hl hcc hss kk
    rw [if_neg c28] at h
    by_cases c29 : t = 29
    · rw [if_pos c29] at h
      refine lv_tableIn (off := 1707) (tgt := 1751) hx hb dL_law_44 (by rw [c29]; decide) (by rw [c29]; decide) (by rw [c29]; rfl) (by decide) ?_
      exact k_29 hst hA hn S hF hX hbl hbA h1 h2 h3 h hP hl hcc hss kk
    rw [if_neg c29] at h
    by_cases c30 : t = 30
    · rw [if_pos c30] at h
      refine lv_tableIn (off := 1751) (tgt := 1795) hx hb dL_law_44 (by rw [c30]; decide) (by rw [c30]; decide) (by rw [c30]; rfl) (by decide) ?_
      exact k_30 hst hA hn S hF hX hbl hbA h1 h2 h3 h hP hl hcc hss kk
    rw [if_neg c30] at h
    by_cases c31 : t = 31
    · rw [if_pos c31] at h
      refine lv_tableIn (off := 1764) (tgt := 1808) hx hb dL_law_44 (by rw [c31]; decide) (by rw [c31]; decide) (by rw [c31]; rfl) (by decide) ?_
      exact k_31 hst hA hn S hF hX hbl hbA h1 h2 h3 h hP hl hcc hss kk
    rw [if_neg c31] at h
    by_cases c32 : t = 32
    · rw [if_pos c32] at h
      refine lv_tableIn (off := 1836) (tgt := 1880) hx hb dL_law_44 (by rw [c32]; decide) (by rw [c32]; decide) (by rw [c32]; rfl) (by decide) ?_
      exact k_32 hst hA hn S hF hX hbl hbA h1 h2 h3 h hP hl hcc hss kk
    rw [if_neg c32] at h
    by_cases c33 : t = 33
    · rw [if_pos c33] at h
      refine lv_tableIn (off := 1892) (tgt := 1936) hx hb dL_law_44 (by rw [c33]; decide) (by rw [c33]; decide) (by rw [c33]; rfl) (by decide) ?_
      exact k_33 hst hA hn S hF hX hbl hbA h1 h2 h3 h hP hl hcc hss kk
    rw [if_neg c33] at h
    by_cases c34 : t = 34
    · rw [if_pos c34] at h
      refine lv_tableIn (off := 1905) (tgt := 1949) hx hb dL_law_44 (by rw [c34]; decide) (by rw [c34]; decide) (by rw [c34]; rfl) (by decide) ?_
      exact k_34 hst hA hn S hF hX hbl hbA h1 h2 h3 h hP hl hcc hss kk
    rw [if_neg c34] at h
    by_cases c35 : t = 35
    · rw [if_pos c35] at h
      refine lv_tableIn (off := 1970) (tgt := 2014) hx hb dL_law_44 (by rw [c35]; decide) (by rw [c35]; decide) (by rw [c35]; rfl) (by decide) ?_
      exact k_35 hst hA hn S hF hX hbl hbA h1 h2 h3 h hP hl hcc hss kk
    rw [if_neg c35] at h
    by_cases c36 : t = 36
    · rw [if_pos c36] at h
      refine lv_tableIn (off := 2013) (tgt := 2057) hx hb dL_law_44 (by rw [c36]; decide) (by rw [c36]; decide) (by rw [c36]; rfl) (by decide) ?_
      exact k_36 hst hA hn S hF hX hbl hbA h1 h2 h3 h hP hl hcc hss kk
    rw [if_neg c36] at h
    by_cases c37 : t = 37
    · rw [if_pos c37] at h
      refine lv_tableIn (off := 2057) (tgt := 2101) hx hb dL_law_44 (by rw [c37]; decide) (by rw [c37]; decide) (by rw [c37]; rfl) (by decide) ?_
      exact k_37 hst hA hn S hF hX hbl hbA h1 h2 h3 h hP hl hcc hss kk
    rw [if_neg c37] at h
    by_cases c38 : t = 38
    · rw [if_pos c38] at h
      refine lv_tableIn (off := 2070) (tgt := 2114) hx hb dL_law_44 (by rw [c38]; decide) (by rw [c38]; decide) (by rw [c38]; rfl) (by decide) ?_
      exact k_38 hst hA hn S hF hX hbl hbA h1 h2 h3 h hP hl hcc hss kk
    rw [if_neg c38] at h
    refine lv_tableOut (tgt := 2158) hx hb dL_law_44 (sw_out (fun i i1 i2 => ?_)) (by decide) ?_
    · have i3 : i = 0 ∨ i = 1 ∨ i = 2 ∨ i = 3 ∨ i = 4 ∨ i = 5 ∨ i = 6 ∨ i = 7 ∨ i = 8 ∨ i = 9 ∨ i = 10 ∨ i = 11 ∨ i = 12 ∨ i = 13 ∨ i = 14 ∨ i = 15 ∨ i = 16 ∨ i = 17 ∨ i = 18 ∨ i = 19 ∨ i = 20 ∨ i = 21 ∨ i = 22 ∨ i = 23 ∨ i = 24 ∨ i = 25 ∨ i = 26 ∨ i = 27 ∨ i = 28 ∨ i = 29 ∨ i = 30 ∨ i = 31 ∨ i = 32 ∨ i = 33 ∨ i = 34 ∨ i = 35 ∨ i = 36 ∨ i = 37 ∨ i = 38 := by omega
      rcases i3 with rfl | rfl | rfl | rfl | rfl | rfl | rfl | rfl | rfl | rfl | rfl | rfl | rfl | rfl | rfl | rfl | rfl | rfl | rfl | rfl | rfl | rfl | rfl | rfl | rfl | rfl | rfl | rfl | rfl | rfl | rfl | rfl | rfl | rfl | rfl | rfl | rfl | rfl | rfl
      · exact c0
      · exact c1
      · exact c2
      · exact c3
      · exact c4
      · exact c5
      · exact c6
      · exact c7
      · exact c8
      · exact c9
      · exact c10
      · exact c11
      · exact c12
      · exact c13
      · exact c14
      · exact c15
      · exact c16
      · exact c17
      · exact c18
      · exact c19
      · exact c20
      · exact c21
      · exact c22
      · exact c23
      · exact c24
      · exact c25
      · exact c26
      · exact c27
      · exact c28
      · exact c29
      · exact c30
      · exact c31
      · exact c32
      · exact c33
      · exact c34
      · exact c35
      · exact c36
      · exact c37
      · exact c38
    obtain rfl := Option.some.inj h
    refine W.widen (k := cells + 2) (n := slots + 12) (by omega) (by omega) ?_
    exact kk _ _ _ hP hl
