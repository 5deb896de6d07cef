/-! THE CLAIM OUT OF ONE WALK OF THE LAW'S BODY. Your part is whole_start (and what it stands on); all else here is the same for every law, but numbers. -/
def R_law : String := "VowelTorusLaw"
def lw_P (b : Addr) (xs : List Int32) (args : Array Value) (s : State) : Prop := args = #[.ref b] ∧ s.IntsAt b xs ∧ xs.length ≤ 260 ∧ (Jvm.Cond.and given_1 narrow_1).before args s = true
/-- what a walk over the start with the record d0 says of its end, said of the start itself -/
theorem lw_closed {s t : State} {o : Outcome} {d0 : Drawn} {L : List Loc} {k n : Nat} (hd0 : s.drawn.sameBut d0 lw_cs) (hv : ∃ v, o = .returned v) (hW : (s.setDrawn d0).WarmedH t.vm) (hs : (s.setDrawn d0).sameButNew ({ t with vm := s.vm } : State) L k n) : State.butDraws s t lw_cs (fun t1 => Framed s o t1 L k n) := by
  have h2 : t.drawn = d0 := congrArg State.drawn hs.1
  refine ⟨⟨hv, hW, State.sameButNew.setDrawn hs s.drawn⟩, ?_, by decide⟩
  rw [h2]
  exact hd0
def lw_Q (_ : Array Value) (s : State) (o : Outcome) (t : State) : Prop := o = .returned (some (.int 1)) ∧ State.butDraws s t lw_cs (fun t1 => Framed s o t1 [] 738875 6875743)
def lw_Z (below : List Frame) (a : Array Value) (s : State) : State → Prop := fun t => ∃ o, t.status = .running ∧ Ended t below o ∧ lw_Q a s o t
/-- the law's own end, with 1 on the stack, nothing written that was there before, its room as the claim has it; d0: the record of draws at this point (at the entry s.drawn: begin with 'refine W.base ?_' and 'have hd0 := Drawn.sameBut.refl s.drawn lw_cs') -/
theorem lw_ret {p : Program} {l : Launch} {e : Env} {s : State} {m : MethodId} {below : List Frame} {meth : Method} {c : Code} {b : Nat} {d0 : Drawn} (hd0 : s.drawn.sameBut d0 lw_cs) (hx : p.tables.exec = Jvm.exec) (hb : c.code = code) (hr : meth.sig.returnType = ret) (hlocks : meth.locks = false) {pc : Nat} {H : Heap} {ls : Array Slot} (hdg : decode code pc = .ok (.ireturn, 1)) : W p l e room_1 (s.setDrawn d0) m #[Value.ref b] below meth c H [] 738875 6875743 (lw_Z below #[Value.ref b] s) (F0 m pc ls [.int 1]) := by
  intro T hT X
  obtain ⟨fs, hret, hrun, hended, hW, hframe⟩ := X.leave (v := some (.int 1)) (hlocks := hlocks) (fun h => by rw [hr] at h; cases h)
  have hmeth' : T.vm.method? m = some meth := X.method'
  refine ⟨T.setFrames fs, ?_, .returned (some (.int 1)), hrun, hended, rfl, lw_closed hd0 ⟨_, rfl⟩ hW hframe⟩
  jvm_step X.here [X.here.top, hx, hb, hdg, hmeth', hr, ret, narrow_b1]
  (try refine ⟨rfl, ?_⟩); (try refine ⟨rfl, ?_⟩)
  first | (intro acts; rw [hret _ acts rfl rfl rfl]) | rw [hret _ _ rfl rfl rfl]
  exact Steps.refl _
/-- what holds at the law's entry: the machine, the code, the tables' words (any of lw_tbl by 'hts w (by decide +kernel)'), the script of L ints xs at the cell b, what the Statement gives of the start (any of its parts by flat_of_before) -/
def lw_At (p : Program) (s : State) (m : MethodId) (meth : Method) (c : Code) (b L : Nat) (xs : Nat → Int32) : Prop :=
  p.tables.exec = Jvm.exec ∧ c.code = code ∧ meth.sig.returnType = ret ∧ c.maxLocals = 11 ∧ s.vm.findClass R_law = some m.cls ∧ (∀ w ∈ lw_tbl, w.before #[Value.ref b] s = true) ∧ va_X b L xs s s.heap ∧ b < s.heap.size ∧ meth.locks = false ∧ (Jvm.Cond.and given_1 narrow_1).before #[Value.ref b] s = true
/-! THE LAW'S ENTRY: what the Statement gives -/
theorem st_words : Cond.laysStatic Bundle.tN "UNASSIGNED_STACK" Bundle.steD ∈ lw_tbl ∧ Cond.laysStatic Bundle.tN "SUPPRESSED_SENTINEL" Bundle.listD ∈ lw_tbl ∧ Cond.initialized Bundle.tN ∈ lw_tbl ∧ Cond.arrayOver (.object "VowelTorus$Board") ∈ lw_tbl := ⟨by decide +kernel, by decide +kernel, by decide +kernel, by decide +kernel⟩
theorem st_arrs : Cond.arrayClass .int ∈ lw_tbl ∧ Cond.arrayClass .long ∈ lw_tbl ∧ Cond.arrayClass .char ∈ lw_tbl ∧ Cond.arrayClass .byte ∈ lw_tbl := ⟨by decide +kernel, by decide +kernel, by decide +kernel, by decide +kernel⟩
theorem st_strs : ∀ q ∈ strs, Cond.stringRef RX5 q.1 q.2 ∈ lw_tbl := by decide +kernel
theorem st_one : ∀ q ∈ strs, ∀ r ∈ strs, q.1 = r.1 → q = r := by decide +kernel
theorem st_nests : ∀ q ∈ nests, Cond.methodLinkNest q.1 q.2.1 q.2.2.1 q.2.2.2 ∈ lw_tbl := by decide +kernel
theorem st_nests2 : ∀ q ∈ nests, (Cond.methodLinkNest q.1 q.2.1 q.2.2.1 q.2.2.2).onTables = true := by decide +kernel
theorem st_nocs : ∀ q ∈ nocs, Cond.not (.castable q.1 q.2) ∈ flatC (Jvm.Cond.and given_1 narrow_1) := by decide +kernel
theorem st_exw : ∀ q ∈ exw, q ∈ lw_tbl := by decide +kernel
theorem st_refs : Cond.isRef (.static Bundle.tN "UNASSIGNED_STACK" Bundle.steD) ∈ flatC (Jvm.Cond.and given_1 narrow_1) ∧ Cond.isRef (.static Bundle.tN "SUPPRESSED_SENTINEL" Bundle.listD) ∈ flatC (Jvm.Cond.and given_1 narrow_1) := ⟨by decide +kernel, by decide +kernel⟩
theorem st_insts : Cond.instantiable RX0 11 ∈ lw_tbl ∧ Cond.instantiable RX1 8 ∈ lw_tbl ∧ Cond.instantiable RX2 3 ∈ lw_tbl ∧ Cond.instantiable RX3 2 ∈ lw_tbl ∧ Cond.instantiable RX4 7 ∈ lw_tbl ∧ Cond.instantiable RX5 13 ∈ lw_tbl ∧ Cond.instantiable RJ4 4 ∈ lw_tbl ∧ Cond.instantiable RJ0 4 ∈ lw_tbl := ⟨by decide +kernel, by decide +kernel, by decide +kernel, by decide +kernel, by decide +kernel, by decide +kernel, by decide +kernel, by decide +kernel⟩
theorem st_sels : (Cond.selects RJ4 yJ5_isLatin1_aae02 yJ5_isLatin1_aae02) ∈ lw_tbl ∧ ∀ y ∈ [yJ5_ensureCapacityInternal_d00df, yJ5_inflateIfNeededFor_a7421, yJ5_putStringAt_47b60], Cond.privateMethod y ∈ lw_tbl ∧ Cond.instanceMethod y ∈ lw_tbl ∧ yJ5_isLatin1_aae02.cls = y.cls ∧ y.cls ≠ "java/lang/invoke/MethodHandle" ∧ y.cls ≠ "java/lang/invoke/VarHandle" := ⟨by decide +kernel, by decide +kernel⟩
theorem st_all {s : State} {args : Array Value} (hts : ∀ w ∈ lw_tbl, w.before args s = true) : ∀ w ∈ ALLW, w.before args s = true := fun w h => by
  rcases List.mem_append.mp (List.mem_filter.mp h).1 with h1 | h1
  · exact hts _ h1
  · obtain ⟨y, hy, rfl⟩ := List.mem_map.mp h1
    obtain ⟨z1, z2, z3, z4, z5⟩ := st_sels.2 y hy
    exact sel_priv (hts _ st_sels.1) z3 ⟨z4, z5⟩ (hts _ z1) (hts _ z2)
theorem st_arr {s : State} {args : Array Value} {ty : FieldType} (h : (Cond.arrayClass ty).before args s = true) (hra : ∀ U cA, U.vm.findClass ("[" ++ ty.toString) = some cA → va_RA U cA ty) : ∃ cA, ArrOfT s cA ty ∧ va_RA s cA ty := by
  obtain ⟨cA, k, comp, h1, h2, h3⟩ := Cond.arrayClass_spec (args := args) (first := s) (o := none) (idx := []) h
  exact ⟨cA, fun n z => ⟨fun k h => (by cases h), k, h2, comp, h3⟩, hra s cA h1⟩
theorem st_arrO {s : State} {args : Array Value} {C : String} (h : (Cond.arrayOver (.object C)).before args s = true) : ∃ cA, ArrOfT s cA (.object C) ∧ va_RA s cA (.object C) := by
  obtain ⟨comp, cA, k, h1, -, h2, h3, h4⟩ := Cond.arrayOver_spec (args := args) (first := s) (o := none) (idx := []) h
  exact ⟨cA, fun n z => ⟨fun k h => (by cases h), k, h2, comp, h3⟩, k, comp, h2, h3, h1, h4⟩
theorem st_K {s : State} {args : Array Value} (hts : ∀ w ∈ lw_tbl, w.before args s = true) : ∃ (D : va_G) (cA : Nat → ClassId), va_K D vc (tyl cA) s := by
  have hal := st_all hts
  obtain ⟨c0, i0, k0⟩ := u_known (C := RX0) (T := TX0) (N := 11) (n := 11) hal (fun w h => inA_X0 w h) (hts _ st_insts.1)
  obtain ⟨c1, i1, k1⟩ := u_known (C := RX1) (T := TX1) (N := 8) (n := 8) hal (fun w h => inA_X1 w h) (hts _ st_insts.2.1)
  obtain ⟨c2, i2, k2⟩ := u_known (C := RX2) (T := TX2) (N := 3) (n := 3) hal (fun w h => inA_X2 w h) (hts _ st_insts.2.2.1)
  obtain ⟨c3, i3, k3⟩ := u_known (C := RX3) (T := TX3) (N := 2) (n := 2) hal (fun w h => inA_X3 w h) (hts _ st_insts.2.2.2.1)
  obtain ⟨c4, i4, k4⟩ := u_known (C := RX4) (T := TX4) (N := 7) (n := 7) hal (fun w h => inA_X4 w h) (hts _ st_insts.2.2.2.2.1)
  obtain ⟨c5, i5, k5⟩ := u_known (C := RX5) (T := TX5) (N := 13) (n := 13) hal (fun w h => inA_X5 w h) (hts _ st_insts.2.2.2.2.2.1)
  obtain ⟨c6, i6, k6⟩ := u_known (C := RJ4) (T := TJ4) (N := 4) (n := 4) hal (fun w h => inA_J4 w h) (hts _ st_insts.2.2.2.2.2.2.1)
  obtain ⟨c7, i7, k7⟩ := u_known (C := RJ0) (T := TJ0) (N := 4) (n := 4) hal (fun w h => inA_J0 w h) (hts _ st_insts.2.2.2.2.2.2.2)
  obtain ⟨a0, ha0⟩ := st_arr (hts _ st_arrs.1) (fun _ _ h => h)
  obtain ⟨a1, ha1⟩ := st_arr (hts _ st_arrs.2.1) (fun _ _ h => h)
  obtain ⟨a2, ha2⟩ := st_arr (hts _ st_arrs.2.2.1) (fun _ _ h => h)
  obtain ⟨a3, ha3⟩ := st_arr (hts _ st_arrs.2.2.2) (fun _ _ h => h)
  obtain ⟨a4, ha4⟩ := st_arrO (hts _ st_words.2.2.2)
  refine ⟨(fun k => match k with | 0 => c0 | 1 => c1 | 2 => c2 | 3 => c3 | 4 => c4 | 5 => c5 | 6 => c6 | _ => c7, fun k => match k with | 0 => i0 | 1 => i1 | 2 => i2 | 3 => i3 | 4 => i4 | 5 => i5 | 6 => i6 | _ => i7), fun k => match k with | 0 => a0 | 1 => a1 | 2 => a2 | 3 => a3 | _ => a4, fun k q hq => ?_, fun k q hq => ?_⟩
  · match k, hq with
    | 0, hq => cases hq; exact k0
    | 1, hq => cases hq; exact k1
    | 2, hq => cases hq; exact k2
    | 3, hq => cases hq; exact k3
    | 4, hq => cases hq; exact k4
    | 5, hq => cases hq; exact k5
    | 6, hq => cases hq; exact k6
    | 7, hq => cases hq; exact k7
    | k + 8, hq => simp [vc] at hq
  · match k, hq with
    | 0, hq => cases hq; exact ha0
    | 1, hq => cases hq; exact ha1
    | 2, hq => cases hq; exact ha2
    | 3, hq => cases hq; exact ha3
    | 4, hq => cases hq; exact ha4
    | k + 5, hq => simp [tyl] at hq
theorem st_sa {s : State} {args : Array Value} (hts : ∀ w ∈ lw_tbl, w.before args s = true) {c5 : ClassId} (hc : s.vm.findClass RX5 = some c5) : ∃ sa : Nat → Nat, ∀ q ∈ strs, vk_R RX5 q.1 q.2 (sa q.1) s := by
  have h1 : ∀ q ∈ strs, ∃ a, vk_R RX5 q.1 q.2 a s := by
    intro q hq
    have h := hts _ (st_strs q hq)
    obtain ⟨k, cf, i, a, -, -, -, -, -, hev⟩ := Cond.stringRef_spec (args := args) (first := s) (o := none) (idx := []) hc h
    exact ⟨a, vk_R.of h hev⟩
  classical
  refine ⟨fun k => if hk : ∃ q, q ∈ strs ∧ q.1 = k then Classical.choose (h1 _ (Classical.choose_spec hk).1) else 0, fun q hq => ?_⟩
  have hk : ∃ q', q' ∈ strs ∧ q'.1 = q.1 := ⟨q, hq, rfl⟩
  show vk_R RX5 q.1 q.2 (if hk : ∃ q', q' ∈ strs ∧ q'.1 = q.1 then Classical.choose (h1 _ (Classical.choose_spec hk).1) else 0) s
  rw [dif_pos hk]
  have e := st_one _ (Classical.choose_spec hk).1 q hq (Classical.choose_spec hk).2
  have h2 := Classical.choose_spec (h1 _ (Classical.choose_spec hk).1)
  generalize Classical.choose (h1 _ (Classical.choose_spec hk).1) = a at h2 ⊢
  rw [e] at h2
  exact h2
theorem noA0 {n : Nat} : ∀ a : Nat, a < n → ¬ A0 n a := fun a h1 h2 => absurd (A0_iff.mp h2) (Nat.not_le.mpr h1)
theorem st_Ex {s : State} {b : Nat} (hts : ∀ w ∈ lw_tbl, w.before #[Value.ref b] s = true) (hg : ∀ w ∈ flatC (Jvm.Cond.and given_1 narrow_1), w.before #[Value.ref b] s = true) {sa : Nat → Nat} (hsa : ∀ q ∈ strs, vk_R RX5 q.1 q.2 (sa q.1) s) : Ex (0, 0, s.heap.size) sa s :=
  ⟨vx_Zqof (hts _ st_words.1) (hts _ st_words.2.2.1) (hg _ st_refs.1) noA0, vx_Zqof (hts _ st_words.2.1) (hts _ st_words.2.2.1) (hg _ st_refs.2) noA0, hsa, fun q hq => va_Nw.of (st_nests2 q hq) (hts _ (st_nests q hq)), fun q hq => va_Nc.of (hg _ (st_nocs q hq)), fun q hq => va_Nw.of (exw_tab q hq) (hts _ (st_exw q hq))⟩
/-! texts -/
def litC (t : Nat × String × List Nat) : List Cond := [.exactly (.string RL t.1) "java/lang/String", .eq (.field (.string RL t.1) "java/lang/String" "coder" "B") (.int 0), .arrayOf (.field (.string RL t.1) "java/lang/String" "value" "[B") .byte, .eq (.length (.field (.string RL t.1) "java/lang/String" "value" "[B")) (.int (Int32.ofNat t.2.2.length))] ++ (List.range t.2.2.length).map (fun j => .eq (.elem (.field (.string RL t.1) "java/lang/String" "value" "[B") (.int (Int32.ofNat j))) (.int ((t.2.2.map nI).getD j 0)))
def litE : List Cond := lits.flatMap litC
theorem st_E : ((flatC (Jvm.Cond.and given_1 narrow_1)).drop 839).take litE.length = litE := by decide +kernel
theorem st_litT : ∀ t ∈ lits, Cond.stringRef RL t.1 t.2.1 ∈ lw_tbl := by decide +kernel
theorem of_drop {α : Type} {l E : List α} {k : Nat} (h : (l.drop k).take E.length = E) : ∀ x ∈ E, x ∈ l := fun x hx => List.mem_of_mem_drop (List.mem_of_mem_take (by rw [h]; exact hx))
theorem litC_j {t : Nat × String × List Nat} {j : Nat} (hj : j < t.2.2.length) : Cond.eq (.elem (.field (.string RL t.1) "java/lang/String" "value" "[B") (.int (Int32.ofNat j))) (.int ((t.2.2.map nI).getD j 0)) ∈ litC t := List.mem_append_right _ (List.mem_map.mpr ⟨j, List.mem_range.mpr hj, rfl⟩)
theorem st_lit {s : State} {b : Nat} (hts : ∀ w ∈ lw_tbl, w.before #[Value.ref b] s = true) (hg : ∀ w ∈ flatC (Jvm.Cond.and given_1 narrow_1), w.before #[Value.ref b] s = true) : ∀ t ∈ lits, ∃ a v : Nat, vk_R RL t.1 t.2.1 a s ∧ TxA (A0 s.heap.size) a v t.2.2.length (txf t.2.2) s s.heap := by
  intro t ht
  have h : ∀ w ∈ litC t, w.before #[Value.ref b] s = true := fun w hw => hg w (of_drop st_E w (List.mem_flatMap.mpr ⟨t, ht, hw⟩))
  have hlen : t.2.2.length < 2 ^ 31 := by
    have z : ∀ t ∈ lits, t.2.2.length < 2 ^ 31 := by decide +kernel
    exact z t ht
  obtain ⟨adK, adV, h1, h2⟩ := vk_Sof (N := 1) (tm := fun _ => .string RL t.1) (len := [t.2.2.length]) (byt := [t.2.2.map nI]) (A := A0 s.heap.size) (args := #[Value.ref b]) (s := s) (fun i hi => by
      obtain rfl : i = 0 := by omega
      exact hlen) (fun i hi => h _ (by simp [litC])) (fun i hi => h _ (by simp [litC])) (fun i hi => h _ (by simp [litC])) (fun i hi => by
      obtain rfl : i = 0 := by omega
      exact h _ (by simp [litC])) (fun i hi j hj => by
      obtain rfl : i = 0 := by omega
      exact h _ (litC_j hj)) (fun i j hi hj hne => absurd (show i = j by omega) hne) noA0
  refine ⟨adK 0, adV 0, vk_R.of (hts _ (st_litT t ht)) (h2 0 (by decide)), ?_⟩
  obtain ⟨z1, z2, z3, z4⟩ := h1.1 0 (by decide)
  refine TxA.congr ⟨z1, z2, z3, z4⟩ (fun j hj => ?_)
  show (t.2.2.map nI).getD j 0 = nI (t.2.2.getD j 0)
  rw [List.getD_eq_getElem?_getD, List.getD_eq_getElem?_getD, List.getElem?_map, List.getElem?_eq_getElem hj]
  rfl
def digC (n : String) (f : Nat → Nat) : List Cond := [.arrayOf (.static "java/lang/Integer" n "[B") .byte, .eq (.length (.static "java/lang/Integer" n "[B")) (.int (Int32.ofNat 100))] ++ (List.range 100).map (fun j => .eq (.elem (.static "java/lang/Integer" n "[B") (.int (Int32.ofNat j))) (.int (nI (f j))))
theorem st_dig1 : ((flatC (Jvm.Cond.and given_1 narrow_1)).drop 12).take (digC "DigitOnes" (fun j => 48 + j % 10)).length = digC "DigitOnes" (fun j => 48 + j % 10) := by decide +kernel
theorem st_dig2 : ((flatC (Jvm.Cond.and given_1 narrow_1)).drop 115).take (digC "DigitTens" (fun j => 48 + j / 10)).length = digC "DigitTens" (fun j => 48 + j / 10) := by decide +kernel
theorem st_digw : Cond.laysStatic "java/lang/Integer" "DigitOnes" "[B" ∈ lw_tbl ∧ Cond.laysStatic "java/lang/Integer" "DigitTens" "[B" ∈ lw_tbl ∧ Cond.initialized "java/lang/Integer" ∈ lw_tbl ∧ Cond.laysStatic "java/lang/String" "COMPACT_STRINGS" "Z" ∈ lw_tbl ∧ Cond.initialized "java/lang/String" ∈ lw_tbl ∧ Cond.laysStatic "jdk/internal/util/Preconditions" "SIOOBE_FORMATTER" "Ljava/util/function/BiFunction;" ∈ lw_tbl ∧ Cond.initialized "jdk/internal/util/Preconditions" ∈ lw_tbl ∧ Cond.castable "[B" "java/lang/Cloneable" ∈ lw_tbl := ⟨by decide +kernel, by decide +kernel, by decide +kernel, by decide +kernel, by decide +kernel, by decide +kernel, by decide +kernel, by decide +kernel⟩
theorem st_sxg : Cond.eq (.static "java/lang/String" "COMPACT_STRINGS" "Z") (.int 1) ∈ flatC (Jvm.Cond.and given_1 narrow_1) ∧ Cond.isRef (.static "jdk/internal/util/Preconditions" "SIOOBE_FORMATTER" "Ljava/util/function/BiFunction;") ∈ flatC (Jvm.Cond.and given_1 narrow_1) := ⟨by decide +kernel, by decide +kernel⟩
theorem st_Sx {s : State} {b : Nat} (hts : ∀ w ∈ lw_tbl, w.before #[Value.ref b] s = true) (hg : ∀ w ∈ flatC (Jvm.Cond.and given_1 narrow_1), w.before #[Value.ref b] s = true) : SxA (A0 s.heap.size) s s.heap :=
  ⟨va_Zof (hts _ st_digw.2.2.2.1) (hts _ st_digw.2.2.2.2.1) (va_eqi (hg _ st_sxg.1)) noA0, va_Zqof (hts _ st_digw.2.2.2.2.2.1) (hts _ st_digw.2.2.2.2.2.2.1) (hg _ st_sxg.2) noA0⟩
theorem st_row {s : State} {args : Array Value} {n : String} {f : Nat → Nat} (h : ∀ w ∈ digC n f, w.before args s = true) : ∃ t : Nat, (Term.static "java/lang/Integer" n "[B").eval args s none [] s = some (.ref t) ∧ va_T .byte t 100 (fun j => .int (nI (f j))) (A0 s.heap.size) s s.heap :=
  va_Tof (by decide) (h _ (by simp [digC])) (va_eqt (h _ (by simp [digC]))) (fun j hj => va_eqt (h _ (List.mem_append_right _ (List.mem_map.mpr ⟨j, List.mem_range.mpr hj, rfl⟩)))) noA0
theorem st_Dg {s : State} {b : Nat} (hts : ∀ w ∈ lw_tbl, w.before #[Value.ref b] s = true) (hg : ∀ w ∈ flatC (Jvm.Cond.and given_1 narrow_1), w.before #[Value.ref b] s = true) : DgA (A0 s.heap.size) s s.heap := by
  obtain ⟨t1, e1, z1⟩ := st_row (fun w hw => hg w (of_drop st_dig1 w hw))
  obtain ⟨t2, e2, z2⟩ := st_row (fun w hw => hg w (of_drop st_dig2 w hw))
  exact ⟨t1, t2, va_Zof (hts _ st_digw.1) (hts _ st_digw.2.2.1) e1 noA0, z1, va_Zof (hts _ st_digw.2.1) (hts _ st_digw.2.2.1) e2 noA0, z2⟩
set_option maxRecDepth 100000 in
set_option maxHeartbeats 8000000 in
theorem law_start {p : Program} {e : Env} {s : State} {m : MethodId} {below : List Frame} {meth : Method} {c : Code} (l : Launch) (hflags : l.flags = flags0) {b L : Nat} {xs : Nat → Int32} (hok : LawOK L xs) (hL : L ≤ 260) (C0 : lw_At p s m meth c b L xs) : W p l e room_1 s m #[Value.ref b] below meth c s.heap [] 0 0 (lw_Z below #[Value.ref b] s) (entryFrame m ([Value.ref b] : List Value).toArray 11) := by
  obtain ⟨hx, hb, hr, hml, hown, hts, hX, hbl, hk, hgv⟩ := C0
  have hst : l.stackTraces = false := by
    show (!l.flags.contains noTraceFlag) = false
    rw [hflags]
    decide
  have hg := flat_of_before _ hgv
  obtain ⟨D, cA, hK⟩ := st_K hts
  obtain ⟨sa, hsa⟩ := st_sa hts (hK.1 5 _ rfl).2.1
  have hEx := st_Ex hts hg hsa
  have S : CallFix p m c cL_law 11 s #[Value.ref b] (Cond.initialized RX0 :: ALLW) RL := by
    refine ⟨hx, hb, hml, hown, fun w h => ?_⟩
    rcases List.mem_cons.mp h with rfl | h
    · exact hts _ (by decide +kernel)
    · exact st_all hts _ h
  have hl := lv_entry ([.ref b]) (n := 11) (Nat.le_of_ble_eq_true rfl)
  rw [lg_entry_eq]
  generalize (lg_sl ([.ref b]) ++ List.replicate (11 - (lg_sl ([.ref b])).length) Slot.unset).toArray = ls at hl ⊢
  have hl : lv_has ls 11 [(0, .ref b)] := hl
  refine law_body hst hK hEx (st_Sx hts hg) (st_lit hts hg) S (st_Dg hts hg) (va_Nw.of rfl (hts _ st_digw.2.2.2.2.2.2.2)) (va_AO.of (hts _ st_words.2.2.2)) (by omega) hbl (fun H locs hS U hU hW => ?_) hok (fun H locs ls hS => ?_) ls hl
  · subst hU
    exact ⟨va_X.moved hW.alike (hX.kept (hS.2.1 b hbl (noA0 b hbl))), Nat.lt_of_lt_of_le hbl hS.1⟩
  · refine W.widen (k := 738875) (n := 6875743) (Nat.le_of_ble_eq_true rfl) (Nat.le_of_ble_eq_true rfl) ?_
    refine va_forget (fun q hq => A0_iff.mp (hS.2.2 q hq)) ?_
    exact lw_ret (Drawn.sameBut.refl s.drawn lw_cs) hx hb hr hk dL_law_1162
