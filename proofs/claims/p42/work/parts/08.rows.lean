/-! PLACES AND PREDICATES -/
/-- what the exceptions need: two statics of Throwable, the texts -/
def strs : List (Nat × String) := [(319, "no such place, line or turn"), (321, "a number, letter or text is not as it must be"), (325, "it is refused"), (129, "the goal is more than 3 turns away"), (316, "no such place, line, turn or index"), (176, "what is not from 0 to 6"), (185, "the goal is reached, or more than 3 turns away"), (194, "letters are alike, or the goal has others"), (213, "all lines are barred"), (215, "the times are not from 0 to 99"), (235, "no such place in the order of lines"), (261, "the input is full"), (273, "nothing was refused"), (288, "what is not from 0 to 9"), (298, "no letter of the goal is once on the board"), (301, "no change can be undone"), (309, "there is no snapshot")]
def nests : List (String × Nat × MethodName × String) := [(RX5, 11, yX0_init, RX5), (RX2, 24, yX0_init, RX5), (RX5, 31, yX1_init, RX5), (RX5, 38, yX3_init, RX5), (RX5, 45, yX4_init, RX5), (RX0, 50, yX5_withCode, RX5), (RX0, 98, yX5_codeAt, RX5), (RX0, 147, yX5_signOf, RX5), (RX0, 151, yX5_isVowel, RX5), (RX4, 69, yX5_codeOf, RX5)]
def nocs : List (String × String) := [("java/lang/IllegalArgumentException", "java/lang/UnsupportedOperationException"), ("java/lang/IndexOutOfBoundsException", "java/lang/UnsupportedOperationException"), ("java/lang/IndexOutOfBoundsException", "java/lang/IllegalArgumentException"), ("java/util/NoSuchElementException", "java/lang/UnsupportedOperationException"), ("java/util/NoSuchElementException", "java/lang/IllegalArgumentException"), ("java/util/NoSuchElementException", "java/lang/IndexOutOfBoundsException"), ("java/lang/UnsupportedOperationException", "java/lang/IllegalArgumentException")]
def excs : List String := ["java/lang/IndexOutOfBoundsException", "java/lang/IllegalArgumentException", "java/lang/UnsupportedOperationException", "java/util/NoSuchElementException", "java/lang/IllegalStateException", "java/lang/ArithmeticException"]
/-- words of exceptions that are no words of a method -/
def exw : List Cond := [.declares (Bundle.initS "java/lang/RuntimeException"), .declares (Bundle.initS "java/lang/Exception"), .declares (Bundle.initS "java/lang/Throwable")] ++ excs.map (fun q => .castable q q)
def Ab (n0 : Nz) : Nat → Prop := fun q => (n0.1 ≤ q ∧ q < n0.2.1) ∨ n0.2.2 ≤ q
def Ex (n0 : Nz) (sa : Nat → Nat) (U : State) : Prop := vx_Zq Bundle.tN "UNASSIGNED_STACK" Bundle.steD (Ab n0) U U.heap ∧ vx_Zq Bundle.tN "SUPPRESSED_SENTINEL" Bundle.listD (Ab n0) U U.heap ∧ (∀ q ∈ strs, vk_R RX5 q.1 q.2 (sa q.1) U) ∧ (∀ q ∈ nests, va_Nw (.methodLinkNest q.1 q.2.1 q.2.2.1 q.2.2.2) U) ∧ (∀ q ∈ nocs, va_Nc q.1 q.2 U) ∧ ∀ q ∈ exw, va_Nw q U
theorem exw_warm {s U : State} (hW : s.WarmedH U.vm) (h : ∀ q ∈ exw, va_Nw q s) : ∀ q ∈ exw, va_Nw q U := by
  intro q hq
  have h1 := h q hq
  rcases List.mem_append.mp hq with a | a
  · simp only [List.mem_cons, List.not_mem_nil, or_false] at a
    rcases a with rfl | rfl | rfl <;> exact va_Nw.warmD hW h1
  · obtain ⟨x, -, rfl⟩ := List.mem_map.mp a
    exact va_Nw.warmC hW h1
theorem exw_tab : ∀ q ∈ exw, q.onTables = true := by decide +kernel
/-- the things' addresses are apart, where things may change -/
def Adr (P : Pl) : Prop := (∀ i j, i < P.2.2.2.1 → j < P.2.2.2.1 → P.2.1 i = P.2.1 j → i = j) ∧ ∀ i, i < P.2.2.2.1 → Ab P.2.2.2.2.1 (P.2.1 i)
theorem Adr.D {P : Pl} (h : Adr P) (w : Wo) : va_D (Ab P.2.2.2.2.1) (wl P.2.1 P.2.2.1 P.2.2.2.1 w) := by
  refine ⟨fun i j p q hi hj e => ?_, fun k q hk => ?_⟩
  · obtain ⟨h1, rfl⟩ := wl_lt hi
    obtain ⟨h2, rfl⟩ := wl_lt hj
    exact h.1 i j h1 h2 e
  · obtain ⟨h1, rfl⟩ := wl_lt hk
    exact h.2 k h1
/-- the world w stands at the state U -/
def Wp (P : Pl) (w : Wo) (U : State) : Prop := P.2.2.2.2.1.2.2 ≤ U.heap.size ∧ va_P P.1 vc (wl P.2.1 P.2.2.1 P.2.2.2.1 w) U.heap ∧ va_K P.1 vc (tyl P.2.2.1) U ∧ Ex P.2.2.2.2.1 P.2.2.2.2.2 U
/-- the world w stands in the heap H, on the way from s -/
def St (P : Pl) (s : State) (w : Wo) (H : Heap) (locs : List Loc) : Prop := va_P P.1 vc (wl P.2.1 P.2.2.1 P.2.2.2.1 w) H ∧ va_S (Ab P.2.2.2.2.1) s.heap H locs
/-- the world w behind a method -/
def Wq (P : Pl) (w : Wo) (U : State) : Prop := va_P P.1 vc (wl P.2.1 P.2.2.1 P.2.2.2.1 w) U.heap
theorem St.Q {P : Pl} {s : State} {w : Wo} {H : Heap} {locs : List Loc} (h : St P s w H locs) {U : State} (hU : U.heap = H) : Wq P w U := by subst hU; exact h.1
/-- what stays on the way from s -/
def Fx (P : Pl) (s : State) : Prop := P.2.2.2.2.1.2.2 ≤ s.heap.size ∧ va_K P.1 vc (tyl P.2.2.1) s ∧ Ex P.2.2.2.2.1 P.2.2.2.2.2 s ∧ Adr P
theorem Ex.warm {n0 : Nz} {sa : Nat → Nat} {s U : State} (h : Ex n0 sa s) (hW : s.WarmedH U.vm) (hk : ∀ q : Nat, q < s.heap.size → ¬ Ab n0 q → U.heap[q]? = s.heap[q]?) : Ex n0 sa U :=
  ⟨vx_Zq.moved hW.alike (h.1.kept hk), vx_Zq.moved hW.alike (h.2.1.kept hk), fun q hq => vk_R.warm hW (h.2.2.1 q hq), fun q hq => va_Nw.warmM hW (h.2.2.2.1 q hq), fun q hq => (h.2.2.2.2.1 q hq).moved hW.alike, exw_warm hW h.2.2.2.2.2⟩
theorem Ex.same {n0 : Nz} {sa : Nat → Nat} {u U : State} (h : Ex n0 sa u) (hv : U.vm = u.vm) (hh : U.heap = u.heap) : Ex n0 sa U :=
  ⟨by rw [hh]; exact vx_Zq.moved (by rw [hv]; exact Vm.Alike.refl _) h.1, by rw [hh]; exact vx_Zq.moved (by rw [hv]; exact Vm.Alike.refl _) h.2.1, fun q hq => vk_R.same hv (h.2.2.1 q hq), fun q hq => va_Nw.same rfl hv.symm (h.2.2.2.1 q hq), fun q hq => (h.2.2.2.2.1 q hq).moved (by rw [hv]; exact Vm.Alike.refl _), fun q hq => va_Nw.same (exw_tab q hq) hv.symm (h.2.2.2.2.2 q hq)⟩
theorem Wp.blind {P : Pl} {w : Wo} {a : Array Value} {U : State} {g : JFrame} {mk : MethodId} (h : Wp P w U) : Wp P w (U.calling g mk a) :=
  ⟨h.1, h.2.1, va_K.moved (Vm.Alike.refl U.vm) h.2.2.1, h.2.2.2.same rfl rfl⟩
/-- at a state on the way whose heap is H -/
theorem St.W {P : Pl} {s : State} {w : Wo} {H : Heap} {locs : List Loc} (hF : Fx P s) (h : St P s w H locs) {U : State} (hU : U.heap = H) (hW : s.WarmedH U.vm) : Wp P w U := by
  subst hU
  exact ⟨Nat.le_trans hF.1 h.2.1, h.1, va_K.moved hW.alike hF.2.1, hF.2.2.1.warm hW h.2.2.1⟩
theorem Wp.fx {P : Pl} {w : Wo} {s : State} (h : Wp P w s) (ha : Adr P) : Fx P s ∧ St P s w s.heap [] := ⟨⟨h.1, h.2.2.1, h.2.2.2, ha⟩, h.2.1, va_S.rf⟩
/-- the private methods of a StringBuilder that are called from its superclass: found from the class too (proved at the entry) -/
def sbsels : List Cond := [yJ5_ensureCapacityInternal_d00df, yJ5_inflateIfNeededFor_a7421, yJ5_putStringAt_47b60].map (fun y => Cond.selects RJ4 y y)
def ALLT : List Cond := lw_tbl ++ sbsels
def ALLW : List Cond := ALLT.filter goodWord
abbrev wsU (y : MethodName) (b : ByteArray) (maxL : Nat) (ret : Option FieldType) : List Cond := Cond.code y b maxL ret :: ALLW
theorem inA {w : Cond} (i : Nat) (h : lw_tbl[i]? = some w) (g : goodWord w = true) : w ∈ ALLW := List.mem_filter.mpr ⟨List.mem_append_left _ (List.mem_of_getElem? h), g⟩
theorem goodA {ws : List Cond} {c : Cond} (h : ∀ w ∈ ws, w ∈ ALLW) : GoodIn (c :: ALLW) (ws ++ ALLW) := by
  intro w hw
  have hm : w ∈ ALLW := by
    rcases List.mem_append.mp hw with q | q
    · exact h w q
    · exact q
  exact ⟨List.mem_cons_of_mem _ hm, good_of_word (List.mem_filter.mp hm).2⟩
abbrev rmU (d mc ms : Nat) : Room := { frames := d, cells := mc, slots := ms, locals := 40 * d }
section VT
variable {p : Program} {l : Launch} {e : Env} {R : Room} {s : State} {m : MethodId} {args : Array Value} {below : List Frame} {meth : Method} {c : Code} {H : Heap} {locs : List Loc} {cells slots : Nat} {Q : State → Prop}
variable {cc : ByteArray} {pc nL : Nat} {ls : Array Slot} {rest : List Value} {own C : String} {Ts : List Cond} {P : Pl} {w : Wo} {T : u_T} {N ci k index n : Nat}
theorem vt_getI (S : CallFix p m c cc nL s args Ts own) (hF : Fx P s) (hP : St P s w H locs) (h : Nat) (hh : h < P.2.2.2.1) (hs : (shp h).1 = ci) (hc7 : ci < 7) (hc : vc[ci]? = some (C, T, N)) (hk : k < N) (hq : (kds ci)[k]? = some 0) (hin : ∀ w ∈ u_ws C T N, w ∈ Ts) (hlink : Cond.fieldLink own index (T k).1 (T k).2.1 (T k).2.2.1 ∈ Ts) (hdg : decode cc pc = .ok (.getfield index, 3))
    (kk : W p l e R s m args below meth c H locs cells slots Q (F0 m (pc + 3) ls (.int (gI w h k) :: rest))) : W p l e R s m args below meth c H locs cells slots Q (F0 m pc ls (.ref (P.2.1 h) :: rest)) :=
  va_get S.1 S.2.1 S.2.2.2.2 hin S.2.2.2.1 hF.2.1 hP.1 h (by rw [wl_at hh, ce_obj hs hc7]) hc k hk (S.2.2.2.2 _ hlink) (fun _ h9 => h9) (by rw [List.getElem?_mapIdx, hq]; rfl) hdg kk
theorem vt_getL (S : CallFix p m c cc nL s args Ts own) (hF : Fx P s) (hP : St P s w H locs) (h : Nat) (hh : h < P.2.2.2.1) (hs : (shp h).1 = ci) (hc7 : ci < 7) (hc : vc[ci]? = some (C, T, N)) (hk : k < N) (hq : (kds ci)[k]? = some 1) (hin : ∀ w ∈ u_ws C T N, w ∈ Ts) (hlink : Cond.fieldLink own index (T k).1 (T k).2.1 (T k).2.2.1 ∈ Ts) (hdg : decode cc pc = .ok (.getfield index, 3))
    (kk : W p l e R s m args below meth c H locs cells slots Q (F0 m (pc + 3) ls (.long (gL w h k) :: rest))) : W p l e R s m args below meth c H locs cells slots Q (F0 m pc ls (.ref (P.2.1 h) :: rest)) :=
  va_get S.1 S.2.1 S.2.2.2.2 hin S.2.2.2.1 hF.2.1 hP.1 h (by rw [wl_at hh, ce_obj hs hc7]) hc k hk (S.2.2.2.2 _ hlink) (fun _ h9 => h9) (by rw [List.getElem?_mapIdx, hq]; rfl) hdg kk
theorem vt_getR {r : Nat} (S : CallFix p m c cc nL s args Ts own) (hF : Fx P s) (hP : St P s w H locs) (h : Nat) (hh : h < P.2.2.2.1) (hs : (shp h).1 = ci) (hc7 : ci < 7) (hc : vc[ci]? = some (C, T, N)) (hk : k < N) (hq : (kds ci)[k]? = some 2) (hr : rf h k = r) (hin : ∀ w ∈ u_ws C T N, w ∈ Ts) (hlink : Cond.fieldLink own index (T k).1 (T k).2.1 (T k).2.2.1 ∈ Ts) (hdg : decode cc pc = .ok (.getfield index, 3))
    (kk : W p l e R s m args below meth c H locs cells slots Q (F0 m (pc + 3) ls (.ref (P.2.1 r) :: rest))) : W p l e R s m args below meth c H locs cells slots Q (F0 m pc ls (.ref (P.2.1 h) :: rest)) :=
  va_get S.1 S.2.1 S.2.2.2.2 hin S.2.2.2.1 hF.2.1 hP.1 h (by rw [wl_at hh, ce_obj hs hc7]) hc k hk (S.2.2.2.2 _ hlink) (fun _ h9 => h9) (by rw [List.getElem?_mapIdx, hq]; show some (Value.ref (P.2.1 (rf h k))) = _; rw [hr]) hdg kk
/-- a reference that is null at first -/
theorem vt_getN {r : Nat} (S : CallFix p m c cc nL s args Ts own) (hF : Fx P s) (hP : St P s w H locs) (h : Nat) (hh : h < P.2.2.2.1) (hs : (shp h).1 = ci) (hc7 : ci < 7) (hc : vc[ci]? = some (C, T, N)) (hk : k < N) (hq : (kds ci)[k]? = some 3) (hr : rf h k = r) (hin : ∀ w ∈ u_ws C T N, w ∈ Ts) (hlink : Cond.fieldLink own index (T k).1 (T k).2.1 (T k).2.2.1 ∈ Ts) (hdg : decode cc pc = .ok (.getfield index, 3))
    (k0 : gI w h k = 0 → W p l e R s m args below meth c H locs cells slots Q (F0 m (pc + 3) ls (.null :: rest))) (k1 : ¬ gI w h k = 0 → W p l e R s m args below meth c H locs cells slots Q (F0 m (pc + 3) ls (.ref (P.2.1 r) :: rest))) : W p l e R s m args below meth c H locs cells slots Q (F0 m pc ls (.ref (P.2.1 h) :: rest)) := by
  by_cases h0 : gI w h k = 0
  · exact va_get S.1 S.2.1 S.2.2.2.2 hin S.2.2.2.1 hF.2.1 hP.1 h (by rw [wl_at hh, ce_obj hs hc7]) hc k hk (S.2.2.2.2 _ hlink) (fun _ h9 => h9) (by rw [List.getElem?_mapIdx, hq]; show some (vq P.2.1 w h k 3) = some .null; simp [vq, h0]) hdg (k0 h0)
  · exact va_get S.1 S.2.1 S.2.2.2.2 hin S.2.2.2.1 hF.2.1 hP.1 h (by rw [wl_at hh, ce_obj hs hc7]) hc k hk (S.2.2.2.2 _ hlink) (fun _ h9 => h9) (by rw [List.getElem?_mapIdx, hq]; show some (vq P.2.1 w h k 3) = some (.ref (P.2.1 r)); simp [vq, h0, hr]) hdg (k1 h0)
theorem ce_putI {ad : Nat → Nat} {cA : Nat → ClassId} {h : Nat} {v : Int32} (hs : (shp h).1 = ci) (hc7 : ci < 7) (hq : (kds ci)[k]? = some 0) : ce ad cA (pI w h k v) h = .inr (ci, ((kds ci).mapIdx (fun k q => vq ad w h k q)).set k (.int v)) := by
  rw [ce_obj hs hc7]
  congr 2
  refine (mapIdx_set hq (by show Value.int (gI (pI w h k v) h k) = _; simp [gI, pI]) (fun j x hj => ?_)).symm
  have e1 : gI (pI w h k v) h j = gI w h j := by simp [gI, pI, hj]
  have e2 : gL (pI w h k v) h j = gL w h j := rfl
  unfold vq
  rw [e1, e2]
theorem ce_putL {ad : Nat → Nat} {cA : Nat → ClassId} {h : Nat} {v : Int64} (hs : (shp h).1 = ci) (hc7 : ci < 7) (hq : (kds ci)[k]? = some 1) : ce ad cA (pL w h k v) h = .inr (ci, ((kds ci).mapIdx (fun k q => vq ad w h k q)).set k (.long v)) := by
  rw [ce_obj hs hc7]
  congr 2
  refine (mapIdx_set hq (by show Value.long (gL (pL w h k v) h k) = _; simp [gL, pL]) (fun j x hj => ?_)).symm
  have e1 : gI (pL w h k v) h j = gI w h j := rfl
  have e2 : gL (pL w h k v) h j = gL w h j := by simp [gL, pL, hj]
  unfold vq
  rw [e1, e2]
theorem vt_putI {v : Int32} {ty : FieldType} (S : CallFix p m c cc nL s args Ts own) (hF : Fx P s) (hP : St P s w H locs) (h : Nat) (hh : h < P.2.2.2.1) (hs : (shp h).1 = ci) (hc7 : ci < 7) (hc : vc[ci]? = some (C, T, N)) (hk : k < N) (hq : (kds ci)[k]? = some 0) (ty0 : Nat → FieldType) (hty : ∀ k, k < N → parseFieldDescriptor (T k).2.2.1 = some (ty0 k)) (hnm : ∀ a, a < N → ∀ b, b < N → a ≠ b → (T a).2.1 ≠ (T b).2.1) (hfin : (T k).2.2.2 = false) (hd : ty0 k = ty) (hn : narrow ty (.int v) = .int v) (hfit : fits ty (.int v) = true) (hl : k < ((kds ci).length)) (hin : ∀ w ∈ u_ws C T N, w ∈ Ts) (hlink : Cond.fieldLink own index (T k).1 (T k).2.1 (T k).2.2.1 ∈ Ts) (hdg : decode cc pc = .ok (.putfield index, 3))
    (kk : ∀ (H1 : Heap) (locs1 : List Loc), St P s (pI w h k v) H1 locs1 → W p l e R s m args below meth c H1 locs1 cells slots Q (F0 m (pc + 3) ls rest)) : W p l e R s m args below meth c H locs cells slots Q (F0 m pc ls (.int v :: .ref (P.2.1 h) :: rest)) := by
  refine va_put S.1 S.2.1 S.2.2.2.2 hin ty0 hty hnm S.2.2.2.1 hF.2.1 hP.1 (hF.2.2.2.D w) hP.2 h (by rw [wl_at hh, ce_obj hs hc7]) hc k hk (S.2.2.2.2 _ hlink) (fun _ h9 => h9) hfin (by rw [hty k hk, hd]) hn hfit (by rw [List.length_mapIdx]; exact hl) hdg (fun H1 locs1 q1 q2 q3 => kk H1 locs1 ⟨?_, q3⟩)
  rw [← wl_set (ce_putI (v := v) hs hc7 hq) (fun j hj => pI_o hj)]
  exact q1
theorem vt_putL {v : Int64} (S : CallFix p m c cc nL s args Ts own) (hF : Fx P s) (hP : St P s w H locs) (h : Nat) (hh : h < P.2.2.2.1) (hs : (shp h).1 = ci) (hc7 : ci < 7) (hc : vc[ci]? = some (C, T, N)) (hk : k < N) (hq : (kds ci)[k]? = some 1) (ty0 : Nat → FieldType) (hty : ∀ k, k < N → parseFieldDescriptor (T k).2.2.1 = some (ty0 k)) (hnm : ∀ a, a < N → ∀ b, b < N → a ≠ b → (T a).2.1 ≠ (T b).2.1) (hfin : (T k).2.2.2 = false) (hd : ty0 k = .long) (hl : k < ((kds ci).length)) (hin : ∀ w ∈ u_ws C T N, w ∈ Ts) (hlink : Cond.fieldLink own index (T k).1 (T k).2.1 (T k).2.2.1 ∈ Ts) (hdg : decode cc pc = .ok (.putfield index, 3))
    (kk : ∀ (H1 : Heap) (locs1 : List Loc), St P s (pL w h k v) H1 locs1 → W p l e R s m args below meth c H1 locs1 cells slots Q (F0 m (pc + 3) ls rest)) : W p l e R s m args below meth c H locs cells slots Q (F0 m pc ls (.long v :: .ref (P.2.1 h) :: rest)) := by
  refine va_put S.1 S.2.1 S.2.2.2.2 hin ty0 hty hnm S.2.2.2.1 hF.2.1 hP.1 (hF.2.2.2.D w) hP.2 h (by rw [wl_at hh, ce_obj hs hc7]) hc k hk (S.2.2.2.2 _ hlink) (fun _ h9 => h9) hfin (by rw [hty k hk, hd]) rfl rfl (by rw [List.length_mapIdx]; exact hl) hdg (fun H1 locs1 q1 q2 q3 => kk H1 locs1 ⟨?_, q3⟩)
  rw [← wl_set (ce_putL (v := v) hs hc7 hq) (fun j hj => pL_o hj)]
  exact q1
/-! rows -/
theorem vt_iald {h n : Nat} {i : Int32} (S : CallFix p m c cc nL s args Ts own) (hF : Fx P s) (hP : St P s w H locs) (hh : h < P.2.2.2.1) (hs : shp h = (10, n)) (hi : ¬ (i < 0 ∨ n ≤ i.toNatClampNeg)) (hdg : decode cc pc = .ok (.iaload, 1))
    (kk : W p l e R s m args below meth c H locs cells slots Q (F0 m (pc + 1) ls (.int (gI w h i.toNatClampNeg) :: rest))) : W p l e R s m args below meth c H locs cells slots Q (F0 m pc ls (.int i :: .ref (P.2.1 h) :: rest)) :=
  va_iald S.1 S.2.1 hF.2.1 hP.1 h 0 (by rw [wl_at hh, ce_int hs]) rfl hi hdg kk
theorem vt_cald {h n : Nat} {i : Int32} (S : CallFix p m c cc nL s args Ts own) (hF : Fx P s) (hP : St P s w H locs) (hh : h < P.2.2.2.1) (hs : shp h = (12, n)) (hi : ¬ (i < 0 ∨ n ≤ i.toNatClampNeg)) (hdg : decode cc pc = .ok (.caload, 1))
    (kk : W p l e R s m args below meth c H locs cells slots Q (F0 m (pc + 1) ls (.int (gI w h i.toNatClampNeg) :: rest))) : W p l e R s m args below meth c H locs cells slots Q (F0 m pc ls (.int i :: .ref (P.2.1 h) :: rest)) :=
  va_cald S.1 S.2.1 hF.2.1 hP.1 h 2 (by rw [wl_at hh, ce_char hs]) rfl hi hdg kk
theorem vt_lald {h n : Nat} {i : Int32} (S : CallFix p m c cc nL s args Ts own) (hF : Fx P s) (hP : St P s w H locs) (hh : h < P.2.2.2.1) (hs : shp h = (11, n)) (hi : ¬ (i < 0 ∨ n ≤ i.toNatClampNeg)) (hdg : decode cc pc = .ok (.laload, 1))
    (kk : W p l e R s m args below meth c H locs cells slots Q (F0 m (pc + 1) ls (.long (gL w h i.toNatClampNeg) :: rest))) : W p l e R s m args below meth c H locs cells slots Q (F0 m pc ls (.int i :: .ref (P.2.1 h) :: rest)) :=
  va_lald S.1 S.2.1 hF.2.1 hP.1 h 1 (by rw [wl_at hh, ce_long hs]) rfl hi hdg kk
theorem vt_aald {h n : Nat} {i : Int32} (S : CallFix p m c cc nL s args Ts own) (hF : Fx P s) (hP : St P s w H locs) (hh : h < P.2.2.2.1) (hs : shp h = (14, n)) (hi : ¬ (i < 0 ∨ n ≤ i.toNatClampNeg)) (hdg : decode cc pc = .ok (.aaload, 1))
    (kk : W p l e R s m args below meth c H locs cells slots Q (F0 m (pc + 1) ls (.ref (P.2.1 (rf h i.toNatClampNeg)) :: rest))) : W p l e R s m args below meth c H locs cells slots Q (F0 m pc ls (.int i :: .ref (P.2.1 h) :: rest)) :=
  va_aldq (f := fun j => some (P.2.1 (rf h j))) S.1 S.2.1 hF.2.1 hP.1 h 4 (by rw [wl_at hh, ce_ref hs]) rfl hi hdg kk
theorem vt_alen {h n : Nat} {v : Int32} (S : CallFix p m c cc nL s args Ts own) (hF : Fx P s) (hP : St P s w H locs) (hh : h < P.2.2.2.1) {t : Nat} (hs : shp h = (t, n)) (ht : 10 ≤ t ∧ t ≤ 14) (hv : Int32.ofNat n = v) (hdg : decode cc pc = .ok (.arraylength, 1))
    (kk : W p l e R s m args below meth c H locs cells slots Q (F0 m (pc + 1) ls (.int v :: rest))) : W p l e R s m args below meth c H locs cells slots Q (F0 m pc ls (.ref (P.2.1 h) :: rest)) := by
  have h5 : t = 10 ∨ t = 11 ∨ t = 12 ∨ t = 13 ∨ t = 14 := by omega
  rcases h5 with rfl | rfl | rfl | rfl | rfl
  · exact va_alen S.1 S.2.1 hF.2.1 hP.1 h 0 (by rw [wl_at hh, ce_int hs]) rfl hv hdg kk
  · exact va_alen S.1 S.2.1 hF.2.1 hP.1 h 1 (by rw [wl_at hh, ce_long hs]) rfl hv hdg kk
  · exact va_alen S.1 S.2.1 hF.2.1 hP.1 h 2 (by rw [wl_at hh, ce_char hs]) rfl hv hdg kk
  · exact va_alen S.1 S.2.1 hF.2.1 hP.1 h 3 (by rw [wl_at hh, ce_dbl hs]) rfl hv hdg kk
  · exact va_alen S.1 S.2.1 hF.2.1 hP.1 h 4 (by rw [wl_at hh, ce_ref hs]) rfl hv hdg kk
theorem upd_gI {h i : Nat} {x : Int32} : upd (gI w h) i x = gI (pI w h i x) h := by
  funext j
  by_cases hj : j = i <;> simp [upd, gI, pI, hj]
theorem upd_gL {h i : Nat} {x : Int64} : vp_updL (gL w h) i x = gL (pL w h i x) h := by
  funext j
  by_cases hj : j = i <;> simp [vp_updL, gL, pL, hj]
theorem vt_iast {h n : Nat} {i x : Int32} (S : CallFix p m c cc nL s args Ts own) (hF : Fx P s) (hP : St P s w H locs) (hh : h < P.2.2.2.1) (hs : shp h = (10, n)) (hi : ¬ (i < 0 ∨ n ≤ i.toNatClampNeg)) (hdg : decode cc pc = .ok (.iastore, 1))
    (kk : ∀ (H1 : Heap) (locs1 : List Loc), St P s (pI w h i.toNatClampNeg x) H1 locs1 → W p l e R s m args below meth c H1 locs1 cells slots Q (F0 m (pc + 1) ls rest)) : W p l e R s m args below meth c H locs cells slots Q (F0 m pc ls (.int x :: .int i :: .ref (P.2.1 h) :: rest)) := by
  refine va_iast S.1 S.2.1 hF.2.1 hP.1 (hF.2.2.2.D w) hP.2 h 0 (by rw [wl_at hh, ce_int hs]) rfl hi hdg (fun H1 locs1 q1 q2 q3 => kk H1 locs1 ⟨?_, q3⟩)
  rw [← wl_set (h := h) (e := .inl (P.2.2.1 0, n, .inl (upd (gI w h) i.toNatClampNeg x))) (by rw [ce_int hs, upd_gI]) (fun j hj => pI_o hj)]
  exact q1
theorem vt_cast {h n : Nat} {i x : Int32} (S : CallFix p m c cc nL s args Ts own) (hF : Fx P s) (hP : St P s w H locs) (hh : h < P.2.2.2.1) (hs : shp h = (12, n)) (hi : ¬ (i < 0 ∨ n ≤ i.toNatClampNeg)) (hdg : decode cc pc = .ok (.castore, 1))
    (kk : ∀ (H1 : Heap) (locs1 : List Loc), St P s (pI w h i.toNatClampNeg (vp_nar .char x)) H1 locs1 → W p l e R s m args below meth c H1 locs1 cells slots Q (F0 m (pc + 1) ls rest)) : W p l e R s m args below meth c H locs cells slots Q (F0 m pc ls (.int x :: .int i :: .ref (P.2.1 h) :: rest)) := by
  refine va_cast S.1 S.2.1 hF.2.1 hP.1 (hF.2.2.2.D w) hP.2 h 2 (by rw [wl_at hh, ce_char hs]) rfl hi hdg (fun H1 locs1 q1 q2 q3 => kk H1 locs1 ⟨?_, q3⟩)
  rw [← wl_set (h := h) (e := .inl (P.2.2.1 2, n, .inl (upd (gI w h) i.toNatClampNeg (vp_nar .char x)))) (by rw [ce_char hs, upd_gI]) (fun j hj => pI_o hj)]
  exact q1
theorem vt_last {h n : Nat} {i : Int32} {x : Int64} (S : CallFix p m c cc nL s args Ts own) (hF : Fx P s) (hP : St P s w H locs) (hh : h < P.2.2.2.1) (hs : shp h = (11, n)) (hi : ¬ (i < 0 ∨ n ≤ i.toNatClampNeg)) (hdg : decode cc pc = .ok (.lastore, 1))
    (kk : ∀ (H1 : Heap) (locs1 : List Loc), St P s (pL w h i.toNatClampNeg x) H1 locs1 → W p l e R s m args below meth c H1 locs1 cells slots Q (F0 m (pc + 1) ls rest)) : W p l e R s m args below meth c H locs cells slots Q (F0 m pc ls (.long x :: .int i :: .ref (P.2.1 h) :: rest)) := by
  refine va_last S.1 S.2.1 hF.2.1 hP.1 (hF.2.2.2.D w) hP.2 h 1 (by rw [wl_at hh, ce_long hs]) rfl hi hdg (fun H1 locs1 q1 q2 q3 => kk H1 locs1 ⟨?_, q3⟩)
  rw [← wl_set (h := h) (e := .inl (P.2.2.1 1, n, .inr (.inl (vp_updL (gL w h) i.toNatClampNeg x)))) (by rw [ce_long hs, upd_gL]) (fun j hj => pL_o hj)]
  exact q1
end VT
