/-! THE LAW'S OWN METHODS: each calls one method of the puzzle and says what it threw -/
abbrev wsW (y : MethodName) (b : ByteArray) (maxL : Nat) (ret : Option FieldType) (hh : List (Nat × Nat × Nat × Nat)) : List Cond := Cond.codeWith y b maxL ret hh :: ALLW
abbrev CtW (l : Launch) (P : Pl) (y : MethodName) (b : ByteArray) (mL : Nat) (hh : List (Nat × Nat × Nat × Nat)) (d mc : Nat) (As : List Value) (w : Wo) (v : Int32) (w' : Wo) : Prop := Met l y (wsW y b mL (some .int) hh) (rmU d mc (6 * mc)) (va_Pc As (Wp P w)) (va_Qi (fun (r : Int32) (u : Wo) => r = v ∧ u = w' ∧ okR (some .int) v) (Wq P) (Ab P.2.2.2.2.1)) mc (6 * mc) (Ab P.2.2.2.2.1)
section VW
variable {l : Launch} {P : Pl} {y : MethodName} {b : ByteArray} {nL : Nat} {ret : Option FieldType} {d mc ms : Nat} {As : List Value} {w : Wo}
variable {Qc : Array Value → State → Outcome → State → Prop} {free : Addr → Prop} {hh : List (Nat × Nat × Nat × Nat)}
/-- a body with an exception table, that throws nothing on -/
theorem vs_w (hA : Adr P) (hpl : plainName y.cls = true) (hlen : (lg_sl As).length ≤ nL)
    (body : ∀ (p : Program) (e : Env) (s : State) (m : MethodId) (args : Array Value) (below : List Frame) (meth : Method) (c : Code) (ls : Array Slot), CallFix p m c b nL s args (wsW y b nL ret hh) y.cls → Fx P s → St P s w s.heap [] → lv_has ls nL (lv_args 0 As) → meth.sig.returnType = ret → meth.locks = false → c.exceptionTable.toList = tableOf hh →
      W p l e (rmU d mc ms) s m args below meth c s.heap [] 0 0 (MQ below Qc args s mc ms free) (F0 m 0 ls [])) :
    Met l y (wsW y b nL ret hh) (rmU d mc ms) (va_Pc As (Wp P w)) Qc mc ms free := by
  refine MetFree.of_bodyS (code := b) (maxLocals := nL) (ret := ret) hpl ?_ ?_
  · intro args s m h hn
    obtain ⟨m9, meth, c, hn9, h1, h2, h3, h4, -, h5, h6, -⟩ := Cond.codeWith_spec (atoms_spec (ws := wsW y b nL ret hh) h _ List.mem_cons_self)
    cases hn.symm.trans hn9
    exact ⟨meth, c, h1, h2, h3, h4, h5, h6⟩
  · intro p e s m args below meth c s₁ B hml hP _
    have hh0 : s₁.heap = s.heap := by rw [B.state]; rfl
    have hpre := atoms_spec (ws := wsW y b nL ret hh) B.pre
    have ht := vx_table (x := y) B (hpre _ List.mem_cons_self)
    obtain ⟨rfl, hW⟩ := hP
    obtain ⟨hF, hS⟩ := hW.fx hA
    obtain ⟨t, a1, o, b1, b2, b3⟩ := body p e s m _ below meth c _ ⟨B.exec, B.bytes, hml, findClass_of_methodNamed B.named, hpre⟩ hF hS (lv_entry As hlen) B.returns B.notSynchronized ht s₁ hh0 (Stand.of_body B)
    rw [← lg_entry_eq] at a1
    exact ⟨t, o, a1, b1, b2, ⟨b3.1, b3.2⟩⟩
end VW
section VWc
variable {p : Program} {l : Launch} {e : Env} {R : Room} {s : State} {m : MethodId} {args : Array Value} {below : List Frame} {meth : Method} {c : Code} {H : Heap} {locs : List Loc} {cells slots : Nat} {Q : State → Prop}
variable {cc : ByteArray} {pc nL n : Nat} {ls : Array Slot} {rest : List Value} {own : String} {P : Pl} {w : Wo} {c0 : Cond} {Ts : List Cond}
/-- caught by a row of the table; the rows ahead lie elsewhere, or name other classes -/
theorem ve_catch {u : Nat × Wo} {j : Nat} {ce : Cell} {q9 : Addr} (pre : List (Nat × Nat × Nat × Nat)) (x : Nat × Nat × Nat × Nat) (suf : List (Nat × Nat × Nat × Nat)) (S : CallFix p m c cc nL s args (c0 :: ALLW) own) (hF : Fx P s) (htab : c.exceptionTable.toList = tableOf (pre ++ x :: suf)) (hu : u.1 = j)
    (hpre : ∀ z ∈ pre, covers ⟨z.1, z.2.1, z.2.2.1, z.2.2.2⟩ pc = false ∨ (z.2.2.2 ≠ 0 ∧ ∃ nm : String, Cond.classLink own z.2.2.2 nm ∈ ALLW ∧ (exN j, nm) ∈ nocs)) (hx : covers ⟨x.1, x.2.1, x.2.2.1, x.2.2.2⟩ pc = true) (h0 : x.2.2.2 ≠ 0) (hlink : Cond.classLink own x.2.2.2 (exN j) ∈ ALLW) (hexc : exN j ∈ excs)
    (h1 : H[q9]? = some ce) (h2 : ce.vm = .none) (h3 : s.vm.findClass (exN u.1) = some ce.cls)
    (kk : W p l e R s m args below meth c H locs cells slots Q (F0 m x.2.2.1 ls [.ref q9])) : vx_W p l e R s m args below meth c H locs cells slots Q (F0 m pc ls rest) q9 := by
  subst hu
  refine vx_catch S.2.2.2.1 (tableOf pre) ⟨x.1, x.2.1, x.2.2.1, x.2.2.2⟩ (tableOf suf) (by rw [htab]; simp [tableOf]) (fun z hz => ?_) hx h0 (S.2.2.2.2 _ (List.mem_cons_of_mem _ hlink)) ?_ h1 h2 h3 kk
  · obtain ⟨z0, hz0, rfl⟩ := List.mem_map.mp hz
    rcases hpre z0 hz0 with h9 | ⟨g0, nm, g1, g2⟩
    · exact Or.inl h9
    · exact Or.inr ⟨g0, nm, S.2.2.2.2 _ (List.mem_cons_of_mem _ g1), hF.2.2.1.2.2.2.2.1 _ g2⟩
  · have hm : Cond.castable (exN u.1) (exN u.1) ∈ exw := List.mem_append_right _ (List.mem_map.mpr ⟨exN u.1, hexc, rfl⟩)
    exact va_Nw.use (exw_tab _ hm) (hF.2.2.1.2.2.2.2.2 _ hm)
end VWc
section VWr
variable {p : Program} {l : Launch} {e : Env} {R : Room} {s : State} {m : MethodId} {args : Array Value} {below : List Frame} {meth : Method} {c : Code} {H : Heap} {locs : List Loc} {cells slots : Nat} {Q : State → Prop}
variable {cc b : ByteArray} {pc nL mL n d mc index : Nat} {ls : Array Slot} {rest st0 As : List Value} {own : String} {P : Pl} {w w' : Wo} {c0 : Cond} {y : MethodName} {hh : List (Nat × Nat × Nat × Nat)}
/-- what the tables say of a method with an exception table -/
abbrev okW (y : MethodName) (b : ByteArray) (mL : Nat) (hh : List (Nat × Nat × Nat × Nat)) (n : Nat) : Prop := Cond.static y ∈ ALLW ∧ Cond.initialized y.cls ∈ ALLW ∧ Cond.codeWith y b mL (some .int) hh ∈ ALLW ∧ y.cls ≠ "java/lang/invoke/MethodHandle" ∧ y.cls ≠ "java/lang/invoke/VarHandle" ∧ (parseMethodDescriptor y.desc).map (fun d => d.parameters.length) = some n
theorem vu_SW (S : CallFix p m c cc nL s args (c0 :: ALLW) own) (hF : Fx P s) (hP : St P s w H locs) {v : Int32} (hM : CtW l P y b mL hh d mc As w v w') (ok : okW y b mL hh n) (hl : Cond.methodLink own index y ∈ ALLW)
    (hR : d + 1 ≤ R.frames ∧ 8 + (mL + 11) + 40 * d ≤ R.locals) (hn : As.length = n) (hsize : ls.size = nL) (hst : st0 = As.reverse ++ rest) (hW : (rest.map fun v => v.category).sum ≤ 8) (hdg : decode cc pc = .ok (.invokestatic index, 3)) (hf : cells + mc ≤ R.cells ∧ slots + 6 * mc ≤ R.slots)
    (kk : ∀ (H1 : Heap) (locs1 : List Loc), St P s w' H1 locs1 → W p l e R s m args below meth c H1 locs1 (cells + mc) (slots + 6 * mc) Q (F0 m (pc + 3) ls (.int v :: rest))) : W p l e R s m args below meth c H locs cells slots Q (F0 m pc ls st0) := by
  refine va_calli (vx_runSW S hM (vx_cwSW n S.2.2.2.2 (consG hl (consG ok.1 (consG ok.2.1 (consG ok.2.2.1 allG)))) rfl rfl rfl ⟨ok.2.2.2.1, ok.2.2.2.2.1, ok.2.2.2.2.2⟩ hR) (vu_preS hF hP) rfl hn hsize hst (lv_room hW) hdg hf) hP.2 (fun _ _ h => h) (fun _ h => h) (fun r u t H1 locs1 ht _ hw hB _ _ hS => ?_)
  obtain ⟨rfl, rfl, -⟩ := hw
  subst ht
  exact kk _ _ ⟨hB, hS⟩
end VWr
/-- what the law's act answers where something is thrown -/
def actX (u : Nat × Wo) : Option (Int32 × Wo) := if u.1 = 3 then some (-2, u.2) else if u.1 = 2 then some (-3, u.2) else if u.1 = 1 then some (-3, u.2) else if u.1 = 4 then some (-3, u.2) else none
def F_L_act (w : Wo) (x1 x2 x3 x4 : Int32) : Option (Int32 × Wo) :=
  if x1 = 0 then (F_X5_board w x2 x3).bind fun q => Sum.elim actX some q
  else if x1 = 1 then (F_X5_put w x2 x4).bind fun q => Sum.elim actX some q
  else if x1 = 2 then (F_X5_goal w x2 x4).bind fun q => Sum.elim actX some q
  else if x1 = 3 then (F_X5_turn w x2).bind fun q => Sum.elim actX some q
  else if x1 = 4 then (F_X5_swap w x2 x3).bind fun q => Sum.elim actX some q
  else if x1 = 5 then (F_X5_bar w x2).bind fun q => Sum.elim actX (fun v => some (if v.1 = 0 then 0 else 1, v.2)) q
  else if x1 = 6 then (F_X5_scramble w x2 x3).bind fun q => Sum.elim actX some q
  else (F_X5_step w).bind fun q => Sum.elim actX some q
def runX (u : Nat × Wo) : Option (Int32 × Wo) := if u.1 = 2 then some (-1, u.2) else if u.1 = 3 then some (-2, u.2) else none
def F_L_runs (w : Wo) : Option (Int32 × Wo) := (F_X5_run w).bind fun q => Sum.elim runX some q
/-- a text put into the input, letter by letter -/
def puts : Wo → List Nat → Option Wo
  | w, [] => some w
  | w, c :: cs => (F_X5_append w (nI c)).bind fun q => Sum.elim (fun _ => none) (fun v => puts v.2 cs) q
/-- whether the line holds these letters from i on -/
def isL : Wo → Nat → List Nat → Option (Int32 × Wo)
  | w, _, [] => some (1, w)
  | w, i, c :: cs => (F_X5_character w (nI i)).bind fun q => Sum.elim (fun _ => none) (fun v => if v.1 = nI c then isL v.2 (i + 1) cs else some (0, v.2)) q
def F_L_isLine (w : Wo) (x1 : Int32) (cs : List Nat) : Option (Int32 × Wo) := if x1 = nI cs.length then isL w 0 cs else some (0, w)
def F_L_faults (w : Wo) (cs : List Nat) (x2 : Int32) : Option (Int32 × Wo) := (puts w cs).bind fun w1 => (F_L_runs w1).bind fun q => if q.1 = -1 then (if F_X5_errorPosition q.2 = x2 then some (1, q.2) else some (0, q.2)) else some (0, q.2)
def WpT (P : Pl) (w : Wo) (a v : Nat) (cs : List Nat) (U : State) : Prop := Wp P w U ∧ SxA (Ab P.2.2.2.2.1) U U.heap ∧ TxA (Ab P.2.2.2.2.1) a v cs.length (txf cs) U U.heap
theorem WpT.bl {P : Pl} {w : Wo} {a v : Nat} {cs : List Nat} (U : State) (g : JFrame) (mk : MethodId) (a' : Array Value) (h : WpT P w a v cs U) : WpT P w a v cs (U.calling g mk a') := ⟨h.1.blind, h.2.1.moved (Vm.Alike.refl U.vm), h.2.2.moved (Vm.Alike.refl U.vm)⟩
theorem drop_at {cs : List Nat} {i : Nat} (h : i < cs.length) : cs.drop i = cs.getD i 0 :: cs.drop (i + 1) := by
  rw [List.drop_eq_getElem_cons h, List.getD_eq_getElem?_getD, List.getElem?_eq_getElem h]
  rfl
theorem ok_L_act : okW yL_act cL_act 6 [(0, 50, 106, 71), (51, 58, 106, 71), (59, 66, 106, 71), (67, 72, 106, 71), (73, 79, 106, 71), (80, 93, 106, 71), (94, 100, 106, 71), (101, 105, 106, 71), (0, 50, 111, 73), (51, 58, 111, 73), (59, 66, 111, 73), (67, 72, 111, 73), (73, 79, 111, 73), (80, 93, 111, 73), (94, 100, 111, 73), (101, 105, 111, 73), (0, 50, 116, 75), (51, 58, 116, 75), (59, 66, 116, 75), (67, 72, 116, 75), (73, 79, 116, 75), (80, 93, 116, 75), (94, 100, 116, 75), (101, 105, 116, 75), (0, 50, 121, 77), (51, 58, 121, 77), (59, 66, 121, 77), (67, 72, 121, 77), (73, 79, 121, 77), (80, 93, 121, 77), (94, 100, 121, 77), (101, 105, 121, 77)] 5 := ⟨inA 1030 (by decide +kernel) (by decide +kernel), inA 34 (by decide +kernel) (by decide +kernel), inA 1031 (by decide +kernel) (by decide +kernel), by decide +kernel, by decide +kernel, by decide +kernel⟩
theorem ok_L_runs : okW yL_runs cL_runs 2 [(0, 4, 5, 73), (0, 4, 8, 71)] 1 := ⟨inA 1079 (by decide +kernel) (by decide +kernel), inA 34 (by decide +kernel) (by decide +kernel), inA 1080 (by decide +kernel) (by decide +kernel), by decide +kernel, by decide +kernel, by decide +kernel⟩
theorem cx_L_71 : Cond.classLink RL 71 "java/lang/UnsupportedOperationException" ∈ ALLW := inA 1032 (by decide +kernel) (by decide +kernel)
theorem cx_L_73 : Cond.classLink RL 73 "java/lang/IllegalArgumentException" ∈ ALLW := inA 1033 (by decide +kernel) (by decide +kernel)
theorem cx_L_75 : Cond.classLink RL 75 "java/lang/IndexOutOfBoundsException" ∈ ALLW := inA 1034 (by decide +kernel) (by decide +kernel)
theorem cx_L_77 : Cond.classLink RL 77 "java/util/NoSuchElementException" ∈ ALLW := inA 1055 (by decide +kernel) (by decide +kernel)
theorem to_J0_charAt_5068e : okV yJ0_charAt_5068e cJ0_charAt_5068e 2 (some .char) 1 := ⟨inA 984 (by decide +kernel) (by decide +kernel), inA 985 (by decide +kernel) (by decide +kernel), inA 46 (by decide +kernel) (by decide +kernel), inA 986 (by decide +kernel) (by decide +kernel), by decide +kernel, by decide +kernel, by decide +kernel⟩
theorem tl_L_7 : Cond.methodLink RL 7 yJ0_length_8abf5 ∈ ALLW := inA 973 (by decide +kernel) (by decide +kernel)
theorem tl_L_13 : Cond.methodLink RL 13 yJ0_charAt_5068e ∈ ALLW := inA 983 (by decide +kernel) (by decide +kernel)
set_option maxRecDepth 100000 in
set_option maxHeartbeats 4000000 in
theorem c_L_act (l : Launch) (P : Pl) (hA : Adr P) (hn : 26 ≤ P.2.2.2.1) (hst : l.stackTraces = false) (w : Wo) (x1 x2 x3 x4 : Int32) {r : Int32 × Wo} (h : F_L_act w x1 x2 x3 x4 = some r) : CtW l P yL_act cL_act 6 [(0, 50, 106, 71), (51, 58, 106, 71), (59, 66, 106, 71), (67, 72, 106, 71), (73, 79, 106, 71), (80, 93, 106, 71), (94, 100, 106, 71), (101, 105, 106, 71), (0, 50, 111, 73), (51, 58, 111, 73), (59, 66, 111, 73), (67, 72, 111, 73), (73, 79, 111, 73), (80, 93, 111, 73), (94, 100, 111, 73), (101, 105, 111, 73), (0, 50, 116, 75), (51, 58, 116, 75), (59, 66, 116, 75), (67, 72, 116, 75), (73, 79, 116, 75), (80, 93, 116, 75), (94, 100, 116, 75), (101, 105, 116, 75), (0, 50, 121, 77), (51, 58, 121, 77), (59, 66, 121, 77), (67, 72, 121, 77), (73, 79, 121, 77), (80, 93, 121, 77), (94, 100, 121, 77), (101, 105, 121, 77)] 9 2 [.ref (P.2.1 0), .int x1, .int x2, .int x3, .int x4] w r.1 r.2 := by
  have hlt : ∀ h, h < 26 → h < P.2.2.2.1 := fun h q => Nat.lt_of_lt_of_le q hn
  refine vs_w hA (by decide +kernel) (Nat.le_of_ble_eq_true rfl) (fun p e s m args below meth c ls S hF hP hl hr hk htab => ?_)
  have hx := S.1
  have hb := S.2.1
  replace hl : lv_has ls 6 [(0, .ref (P.2.1 0)), (1, .int x1), (2, .int x2), (3, .int x3), (4, .int x4)] := hl
  unfold F_L_act at h
  refine lv_iload_n hx hb dL_act_0 rfl (lv_at hl 1 rfl) ?_
  by_cases w0 : x1 = 0
  · rw [if_pos w0] at h
    refine lv_tableIn (off := 43) (tgt := 44) hx hb dL_act_1 (by rw [w0]; decide) (by rw [w0]; decide) (by rw [w0]; rfl) (by decide) ?_
    obtain ⟨q1, hq1, h⟩ := ob h
    refine lv_aload_n hx hb dL_act_44 rfl (lv_at hl 0 rfl) ?_
    refine lv_iload_n hx hb dL_act_45 rfl (lv_at hl 2 rfl) ?_
    refine lv_iload_n hx hb dL_act_46 rfl (lv_at hl 3 rfl) ?_
    refine vu_xi hP (vu_VX S hF hP (h := 0) (hlt _ (by decide)) rfl (by decide) rfl (c_X5_board l P hA hn hst w x2 x3 hq1) ok_X5_board ml_L_44 ⟨(Nat.le_of_ble_eq_true rfl), (Nat.le_of_ble_eq_true rfl)⟩ rfl hl.1 rfl (Nat.le_of_ble_eq_true rfl) dL_act_47 ⟨(Nat.le_of_ble_eq_true rfl), (Nat.le_of_ble_eq_true rfl)⟩) (fun H locs u ce q9 ho hP e1 e2 e3 => ?_) (fun H locs r2 u2 ho hP => ?_)
    · subst ho
      rw [Sum.elim_inl] at h
      unfold actX at h
      by_cases k3 : u.1 = 3
      · rw [if_pos k3] at h
        obtain rfl := Option.some.inj h
        refine ve_catch (j := 3) [] (0, 50, 106, 71) [(51, 58, 106, 71), (59, 66, 106, 71), (67, 72, 106, 71), (73, 79, 106, 71), (80, 93, 106, 71), (94, 100, 106, 71), (101, 105, 106, 71), (0, 50, 111, 73), (51, 58, 111, 73), (59, 66, 111, 73), (67, 72, 111, 73), (73, 79, 111, 73), (80, 93, 111, 73), (94, 100, 111, 73), (101, 105, 111, 73), (0, 50, 116, 75), (51, 58, 116, 75), (59, 66, 116, 75), (67, 72, 116, 75), (73, 79, 116, 75), (80, 93, 116, 75), (94, 100, 116, 75), (101, 105, 116, 75), (0, 50, 121, 77), (51, 58, 121, 77), (59, 66, 121, 77), (67, 72, 121, 77), (73, 79, 121, 77), (80, 93, 121, 77), (94, 100, 121, 77), (101, 105, 121, 77)] S hF htab k3 (fun _ z => absurd z List.not_mem_nil) (by decide) (by decide) cx_L_71 (by decide +kernel) e1 e2 e3 ?_
        refine lv_astore (lv' := [(5, .ref q9), (0, .ref (P.2.1 0)), (1, .int x1), (2, .int x2), (3, .int x3), (4, .int x4)]) hx hb dL_act_106 hl (by decide) rfl (fun ls hl => ?_)
        refine lv_bipush (v := (-2)) hx hb dL_act_108 (by decide) ?_
        refine W.widen (k := 2) (n := 12) (by decide) (by decide) ?_
        exact ve_i (v := (-2)) S hF hP hr hk rfl dL_act_110
      · rw [if_neg k3] at h
        by_cases k2 : u.1 = 2
        · rw [if_pos k2] at h
          obtain rfl := Option.some.inj h
          refine ve_catch (j := 2) [(0, 50, 106, 71), (51, 58, 106, 71), (59, 66, 106, 71), (67, 72, 106, 71), (73, 79, 106, 71), (80, 93, 106, 71), (94, 100, 106, 71), (101, 105, 106, 71)] (0, 50, 111, 73) [(51, 58, 111, 73), (59, 66, 111, 73), (67, 72, 111, 73), (73, 79, 111, 73), (80, 93, 111, 73), (94, 100, 111, 73), (101, 105, 111, 73), (0, 50, 116, 75), (51, 58, 116, 75), (59, 66, 116, 75), (67, 72, 116, 75), (73, 79, 116, 75), (80, 93, 116, 75), (94, 100, 116, 75), (101, 105, 116, 75), (0, 50, 121, 77), (51, 58, 121, 77), (59, 66, 121, 77), (67, 72, 121, 77), (73, 79, 121, 77), (80, 93, 121, 77), (94, 100, 121, 77), (101, 105, 121, 77)] S hF htab k2 (List.forall_mem_cons.mpr ⟨Or.inr ⟨by decide, _, cx_L_71, by decide +kernel⟩, (List.forall_mem_cons.mpr ⟨Or.inl (by decide), (List.forall_mem_cons.mpr ⟨Or.inl (by decide), (List.forall_mem_cons.mpr ⟨Or.inl (by decide), (List.forall_mem_cons.mpr ⟨Or.inl (by decide), (List.forall_mem_cons.mpr ⟨Or.inl (by decide), (List.forall_mem_cons.mpr ⟨Or.inl (by decide), (List.forall_mem_cons.mpr ⟨Or.inl (by decide), (fun _ z => absurd z List.not_mem_nil)⟩)⟩)⟩)⟩)⟩)⟩)⟩)⟩) (by decide) (by decide) cx_L_73 (by decide +kernel) e1 e2 e3 ?_
          refine lv_astore (lv' := [(5, .ref q9), (0, .ref (P.2.1 0)), (1, .int x1), (2, .int x2), (3, .int x3), (4, .int x4)]) hx hb dL_act_111 hl (by decide) rfl (fun ls hl => ?_)
          refine lv_bipush (v := (-3)) hx hb dL_act_113 (by decide) ?_
          refine W.widen (k := 2) (n := 12) (by decide) (by decide) ?_
          exact ve_i (v := (-3)) S hF hP hr hk rfl dL_act_115
        · rw [if_neg k2] at h
          by_cases k1 : u.1 = 1
          · rw [if_pos k1] at h
            obtain rfl := Option.some.inj h
            refine ve_catch (j := 1) [(0, 50, 106, 71), (51, 58, 106, 71), (59, 66, 106, 71), (67, 72, 106, 71), (73, 79, 106, 71), (80, 93, 106, 71), (94, 100, 106, 71), (101, 105, 106, 71), (0, 50, 111, 73), (51, 58, 111, 73), (59, 66, 111, 73), (67, 72, 111, 73), (73, 79, 111, 73), (80, 93, 111, 73), (94, 100, 111, 73), (101, 105, 111, 73)] (0, 50, 116, 75) [(51, 58, 116, 75), (59, 66, 116, 75), (67, 72, 116, 75), (73, 79, 116, 75), (80, 93, 116, 75), (94, 100, 116, 75), (101, 105, 116, 75), (0, 50, 121, 77), (51, 58, 121, 77), (59, 66, 121, 77), (67, 72, 121, 77), (73, 79, 121, 77), (80, 93, 121, 77), (94, 100, 121, 77), (101, 105, 121, 77)] S hF htab k1 (List.forall_mem_cons.mpr ⟨Or.inr ⟨by decide, _, cx_L_71, by decide +kernel⟩, (List.forall_mem_cons.mpr ⟨Or.inl (by decide), (List.forall_mem_cons.mpr ⟨Or.inl (by decide), (List.forall_mem_cons.mpr ⟨Or.inl (by decide), (List.forall_mem_cons.mpr ⟨Or.inl (by decide), (List.forall_mem_cons.mpr ⟨Or.inl (by decide), (List.forall_mem_cons.mpr ⟨Or.inl (by decide), (List.forall_mem_cons.mpr ⟨Or.inl (by decide), (List.forall_mem_cons.mpr ⟨Or.inr ⟨by decide, _, cx_L_73, by decide +kernel⟩, (List.forall_mem_cons.mpr ⟨Or.inl (by decide), (List.forall_mem_cons.mpr ⟨Or.inl (by decide), (List.forall_mem_cons.mpr ⟨Or.inl (by decide), (List.forall_mem_cons.mpr ⟨Or.inl (by decide), (List.forall_mem_cons.mpr ⟨Or.inl (by decide), (List.forall_mem_cons.mpr ⟨Or.inl (by decide), (List.forall_mem_cons.mpr ⟨Or.inl (by decide), (fun _ z => absurd z List.not_mem_nil)⟩)⟩)⟩)⟩)⟩)⟩)⟩)⟩)⟩)⟩)⟩)⟩)⟩)⟩)⟩)⟩) (by decide) (by decide) cx_L_75 (by decide +kernel) e1 e2 e3 ?_
            refine lv_astore (lv' := [(5, .ref q9), (0, .ref (P.2.1 0)), (1, .int x1), (2, .int x2), (3, .int x3), (4, .int x4)]) hx hb dL_act_116 hl (by decide) rfl (fun ls hl => ?_)
            refine lv_bipush (v := (-3)) hx hb dL_act_118 (by decide) ?_
            refine W.widen (k := 2) (n := 12) (by decide) (by decide) ?_
            exact ve_i (v := (-3)) S hF hP hr hk rfl dL_act_120
          · rw [if_neg k1] at h
            by_cases k4 : u.1 = 4
            · rw [if_pos k4] at h
              obtain rfl := Option.some.inj h
              refine ve_catch (j := 4) [(0, 50, 106, 71), (51, 58, 106, 71), (59, 66, 106, 71), (67, 72, 106, 71), (73, 79, 106, 71), (80, 93, 106, 71), (94, 100, 106, 71), (101, 105, 106, 71), (0, 50, 111, 73), (51, 58, 111, 73), (59, 66, 111, 73), (67, 72, 111, 73), (73, 79, 111, 73), (80, 93, 111, 73), (94, 100, 111, 73), (101, 105, 111, 73), (0, 50, 116, 75), (51, 58, 116, 75), (59, 66, 116, 75), (67, 72, 116, 75), (73, 79, 116, 75), (80, 93, 116, 75), (94, 100, 116, 75), (101, 105, 116, 75)] (0, 50, 121, 77) [(51, 58, 121, 77), (59, 66, 121, 77), (67, 72, 121, 77), (73, 79, 121, 77), (80, 93, 121, 77), (94, 100, 121, 77), (101, 105, 121, 77)] S hF htab k4 (List.forall_mem_cons.mpr ⟨Or.inr ⟨by decide, _, cx_L_71, by decide +kernel⟩, (List.forall_mem_cons.mpr ⟨Or.inl (by decide), (List.forall_mem_cons.mpr ⟨Or.inl (by decide), (List.forall_mem_cons.mpr ⟨Or.inl (by decide), (List.forall_mem_cons.mpr ⟨Or.inl (by decide), (List.forall_mem_cons.mpr ⟨Or.inl (by decide), (List.forall_mem_cons.mpr ⟨Or.inl (by decide), (List.forall_mem_cons.mpr ⟨Or.inl (by decide), (List.forall_mem_cons.mpr ⟨Or.inr ⟨by decide, _, cx_L_73, by decide +kernel⟩, (List.forall_mem_cons.mpr ⟨Or.inl (by decide), (List.forall_mem_cons.mpr ⟨Or.inl (by decide), (List.forall_mem_cons.mpr ⟨Or.inl (by decide), (List.forall_mem_cons.mpr ⟨Or.inl (by decide), (List.forall_mem_cons.mpr ⟨Or.inl (by decide), (List.forall_mem_cons.mpr ⟨Or.inl (by decide), (List.forall_mem_cons.mpr ⟨Or.inl (by decide), (List.forall_mem_cons.mpr ⟨Or.inr ⟨by decide, _, cx_L_75, by decide +kernel⟩, (List.forall_mem_cons.mpr ⟨Or.inl (by decide), (List.forall_mem_cons.mpr ⟨Or.inl (by decide), (List.forall_mem_cons.mpr ⟨Or.inl (by decide), (List.forall_mem_cons.mpr ⟨Or.inl (by decide), (List.forall_mem_cons.mpr ⟨Or.inl (by decide), (List.forall_mem_cons.mpr ⟨Or.inl (by decide), (List.forall_mem_cons.mpr ⟨Or.inl (by decide), (fun _ z => absurd z List.not_mem_nil)⟩)⟩)⟩)⟩)⟩)⟩)⟩)⟩)⟩)⟩)⟩)⟩)⟩)⟩)⟩)⟩)⟩)⟩)⟩)⟩)⟩)⟩)⟩)⟩) (by decide) (by decide) cx_L_77 (by decide +kernel) e1 e2 e3 ?_
              refine lv_astore (lv' := [(5, .ref q9), (0, .ref (P.2.1 0)), (1, .int x1), (2, .int x2), (3, .int x3), (4, .int x4)]) hx hb dL_act_121 hl (by decide) rfl (fun ls hl => ?_)
              refine lv_bipush (v := (-3)) hx hb dL_act_123 (by decide) ?_
              refine W.widen (k := 2) (n := 12) (by decide) (by decide) ?_
              exact ve_i (v := (-3)) S hF hP hr hk rfl dL_act_125
            · rw [if_neg k4] at h
              cases h
    · subst ho
      rw [Sum.elim_inr] at h
      obtain rfl := Option.some.inj h
      refine W.widen (k := 2) (n := 12) (by decide) (by decide) ?_
      exact ve_i (v := r2) S hF hP hr hk rfl dL_act_50
  rw [if_neg w0] at h
  by_cases w1 : x1 = 1
  · rw [if_pos w1] at h
    refine lv_tableIn (off := 50) (tgt := 51) hx hb dL_act_1 (by rw [w1]; decide) (by rw [w1]; decide) (by rw [w1]; rfl) (by decide) ?_
    obtain ⟨q1, hq1, h⟩ := ob h
    refine lv_aload_n hx hb dL_act_51 rfl (lv_at hl 0 rfl) ?_
    refine lv_iload_n hx hb dL_act_52 rfl (lv_at hl 2 rfl) ?_
    refine lv_iload hx hb dL_act_53 (lv_at hl 4 rfl) ?_
    refine vu_xi hP (vu_VX S hF hP (h := 0) (hlt _ (by decide)) rfl (by decide) rfl (c_X5_put l P hA hn hst w x2 x4 hq1) ok_X5_put ml_L_48 ⟨(Nat.le_of_ble_eq_true rfl), (Nat.le_of_ble_eq_true rfl)⟩ rfl hl.1 rfl (Nat.le_of_ble_eq_true rfl) dL_act_55 ⟨(Nat.le_of_ble_eq_true rfl), (Nat.le_of_ble_eq_true rfl)⟩) (fun H locs u ce q9 ho hP e1 e2 e3 => ?_) (fun H locs r2 u2 ho hP => ?_)
    · subst ho
      rw [Sum.elim_inl] at h
      unfold actX at h
      by_cases k3 : u.1 = 3
      · rw [if_pos k3] at h
        obtain rfl := Option.some.inj h
        refine ve_catch (j := 3) [(0, 50, 106, 71)] (51, 58, 106, 71) [(59, 66, 106, 71), (67, 72, 106, 71), (73, 79, 106, 71), (80, 93, 106, 71), (94, 100, 106, 71), (101, 105, 106, 71), (0, 50, 111, 73), (51, 58, 111, 73), (59, 66, 111, 73), (67, 72, 111, 73), (73, 79, 111, 73), (80, 93, 111, 73), (94, 100, 111, 73), (101, 105, 111, 73), (0, 50, 116, 75), (51, 58, 116, 75), (59, 66, 116, 75), (67, 72, 116, 75), (73, 79, 116, 75), (80, 93, 116, 75), (94, 100, 116, 75), (101, 105, 116, 75), (0, 50, 121, 77), (51, 58, 121, 77), (59, 66, 121, 77), (67, 72, 121, 77), (73, 79, 121, 77), (80, 93, 121, 77), (94, 100, 121, 77), (101, 105, 121, 77)] S hF htab k3 (List.forall_mem_cons.mpr ⟨Or.inl (by decide), (fun _ z => absurd z List.not_mem_nil)⟩) (by decide) (by decide) cx_L_71 (by decide +kernel) e1 e2 e3 ?_
        refine lv_astore (lv' := [(5, .ref q9), (0, .ref (P.2.1 0)), (1, .int x1), (2, .int x2), (3, .int x3), (4, .int x4)]) hx hb dL_act_106 hl (by decide) rfl (fun ls hl => ?_)
        refine lv_bipush (v := (-2)) hx hb dL_act_108 (by decide) ?_
        refine W.widen (k := 2) (n := 12) (by decide) (by decide) ?_
        exact ve_i (v := (-2)) S hF hP hr hk rfl dL_act_110
      · rw [if_neg k3] at h
        by_cases k2 : u.1 = 2
        · rw [if_pos k2] at h
          obtain rfl := Option.some.inj h
          refine ve_catch (j := 2) [(0, 50, 106, 71), (51, 58, 106, 71), (59, 66, 106, 71), (67, 72, 106, 71), (73, 79, 106, 71), (80, 93, 106, 71), (94, 100, 106, 71), (101, 105, 106, 71), (0, 50, 111, 73)] (51, 58, 111, 73) [(59, 66, 111, 73), (67, 72, 111, 73), (73, 79, 111, 73), (80, 93, 111, 73), (94, 100, 111, 73), (101, 105, 111, 73), (0, 50, 116, 75), (51, 58, 116, 75), (59, 66, 116, 75), (67, 72, 116, 75), (73, 79, 116, 75), (80, 93, 116, 75), (94, 100, 116, 75), (101, 105, 116, 75), (0, 50, 121, 77), (51, 58, 121, 77), (59, 66, 121, 77), (67, 72, 121, 77), (73, 79, 121, 77), (80, 93, 121, 77), (94, 100, 121, 77), (101, 105, 121, 77)] S hF htab k2 (List.forall_mem_cons.mpr ⟨Or.inl (by decide), (List.forall_mem_cons.mpr ⟨Or.inr ⟨by decide, _, cx_L_71, by decide +kernel⟩, (List.forall_mem_cons.mpr ⟨Or.inl (by decide), (List.forall_mem_cons.mpr ⟨Or.inl (by decide), (List.forall_mem_cons.mpr ⟨Or.inl (by decide), (List.forall_mem_cons.mpr ⟨Or.inl (by decide), (List.forall_mem_cons.mpr ⟨Or.inl (by decide), (List.forall_mem_cons.mpr ⟨Or.inl (by decide), (List.forall_mem_cons.mpr ⟨Or.inl (by decide), (fun _ z => absurd z List.not_mem_nil)⟩)⟩)⟩)⟩)⟩)⟩)⟩)⟩)⟩) (by decide) (by decide) cx_L_73 (by decide +kernel) e1 e2 e3 ?_
          refine lv_astore (lv' := [(5, .ref q9), (0, .ref (P.2.1 0)), (1, .int x1), (2, .int x2), (3, .int x3), (4, .int x4)]) hx hb dL_act_111 hl (by decide) rfl (fun ls hl => ?_)
          refine lv_bipush (v := (-3)) hx hb dL_act_113 (by decide) ?_
          refine W.widen (k := 2) (n := 12) (by decide) (by decide) ?_
          exact ve_i (v := (-3)) S hF hP hr hk rfl dL_act_115
        · rw [if_neg k2] at h
          by_cases k1 : u.1 = 1
          · rw [if_pos k1] at h
            obtain rfl := Option.some.inj h
            refine ve_catch (j := 1) [(0, 50, 106, 71), (51, 58, 106, 71), (59, 66, 106, 71), (67, 72, 106, 71), (73, 79, 106, 71), (80, 93, 106, 71), (94, 100, 106, 71), (101, 105, 106, 71), (0, 50, 111, 73), (51, 58, 111, 73), (59, 66, 111, 73), (67, 72, 111, 73), (73, 79, 111, 73), (80, 93, 111, 73), (94, 100, 111, 73), (101, 105, 111, 73), (0, 50, 116, 75)] (51, 58, 116, 75) [(59, 66, 116, 75), (67, 72, 116, 75), (73, 79, 116, 75), (80, 93, 116, 75), (94, 100, 116, 75), (101, 105, 116, 75), (0, 50, 121, 77), (51, 58, 121, 77), (59, 66, 121, 77), (67, 72, 121, 77), (73, 79, 121, 77), (80, 93, 121, 77), (94, 100, 121, 77), (101, 105, 121, 77)] S hF htab k1 (List.forall_mem_cons.mpr ⟨Or.inl (by decide), (List.forall_mem_cons.mpr ⟨Or.inr ⟨by decide, _, cx_L_71, by decide +kernel⟩, (List.forall_mem_cons.mpr ⟨Or.inl (by decide), (List.forall_mem_cons.mpr ⟨Or.inl (by decide), (List.forall_mem_cons.mpr ⟨Or.inl (by decide), (List.forall_mem_cons.mpr ⟨Or.inl (by decide), (List.forall_mem_cons.mpr ⟨Or.inl (by decide), (List.forall_mem_cons.mpr ⟨Or.inl (by decide), (List.forall_mem_cons.mpr ⟨Or.inl (by decide), (List.forall_mem_cons.mpr ⟨Or.inr ⟨by decide, _, cx_L_73, by decide +kernel⟩, (List.forall_mem_cons.mpr ⟨Or.inl (by decide), (List.forall_mem_cons.mpr ⟨Or.inl (by decide), (List.forall_mem_cons.mpr ⟨Or.inl (by decide), (List.forall_mem_cons.mpr ⟨Or.inl (by decide), (List.forall_mem_cons.mpr ⟨Or.inl (by decide), (List.forall_mem_cons.mpr ⟨Or.inl (by decide), (List.forall_mem_cons.mpr ⟨Or.inl (by decide), (fun _ z => absurd z List.not_mem_nil)⟩)⟩)⟩)⟩)⟩)⟩)⟩)⟩)⟩)⟩)⟩)⟩)⟩)⟩)⟩)⟩)⟩) (by decide) (by decide) cx_L_75 (by decide +kernel) e1 e2 e3 ?_
            refine lv_astore (lv' := [(5, .ref q9), (0, .ref (P.2.1 0)), (1, .int x1), (2, .int x2), (3, .int x3), (4, .int x4)]) hx hb dL_act_116 hl (by decide) rfl (fun ls hl => ?_)
            refine lv_bipush (v := (-3)) hx hb dL_act_118 (by decide) ?_
            refine W.widen (k := 2) (n := 12) (by decide) (by decide) ?_
            exact ve_i (v := (-3)) S hF hP hr hk rfl dL_act_120
          · rw [if_neg k1] at h
            by_cases k4 : u.1 = 4
            · rw [if_pos k4] at h
              obtain rfl := Option.some.inj h
              refine ve_catch (j := 4) [(0, 50, 106, 71), (51, 58, 106, 71), (59, 66, 106, 71), (67, 72, 106, 71), (73, 79, 106, 71), (80, 93, 106, 71), (94, 100, 106, 71), (101, 105, 106, 71), (0, 50, 111, 73), (51, 58, 111, 73), (59, 66, 111, 73), (67, 72, 111, 73), (73, 79, 111, 73), (80, 93, 111, 73), (94, 100, 111, 73), (101, 105, 111, 73), (0, 50, 116, 75), (51, 58, 116, 75), (59, 66, 116, 75), (67, 72, 116, 75), (73, 79, 116, 75), (80, 93, 116, 75), (94, 100, 116, 75), (101, 105, 116, 75), (0, 50, 121, 77)] (51, 58, 121, 77) [(59, 66, 121, 77), (67, 72, 121, 77), (73, 79, 121, 77), (80, 93, 121, 77), (94, 100, 121, 77), (101, 105, 121, 77)] S hF htab k4 (List.forall_mem_cons.mpr ⟨Or.inl (by decide), (List.forall_mem_cons.mpr ⟨Or.inr ⟨by decide, _, cx_L_71, by decide +kernel⟩, (List.forall_mem_cons.mpr ⟨Or.inl (by decide), (List.forall_mem_cons.mpr ⟨Or.inl (by decide), (List.forall_mem_cons.mpr ⟨Or.inl (by decide), (List.forall_mem_cons.mpr ⟨Or.inl (by decide), (List.forall_mem_cons.mpr ⟨Or.inl (by decide), (List.forall_mem_cons.mpr ⟨Or.inl (by decide), (List.forall_mem_cons.mpr ⟨Or.inl (by decide), (List.forall_mem_cons.mpr ⟨Or.inr ⟨by decide, _, cx_L_73, by decide +kernel⟩, (List.forall_mem_cons.mpr ⟨Or.inl (by decide), (List.forall_mem_cons.mpr ⟨Or.inl (by decide), (List.forall_mem_cons.mpr ⟨Or.inl (by decide), (List.forall_mem_cons.mpr ⟨Or.inl (by decide), (List.forall_mem_cons.mpr ⟨Or.inl (by decide), (List.forall_mem_cons.mpr ⟨Or.inl (by decide), (List.forall_mem_cons.mpr ⟨Or.inl (by decide), (List.forall_mem_cons.mpr ⟨Or.inr ⟨by decide, _, cx_L_75, by decide +kernel⟩, (List.forall_mem_cons.mpr ⟨Or.inl (by decide), (List.forall_mem_cons.mpr ⟨Or.inl (by decide), (List.forall_mem_cons.mpr ⟨Or.inl (by decide), (List.forall_mem_cons.mpr ⟨Or.inl (by decide), (List.forall_mem_cons.mpr ⟨Or.inl (by decide), (List.forall_mem_cons.mpr ⟨Or.inl (by decide), (List.forall_mem_cons.mpr ⟨Or.inl (by decide), (fun _ z => absurd z List.not_mem_nil)⟩)⟩)⟩)⟩)⟩)⟩)⟩)⟩)⟩)⟩)⟩)⟩)⟩)⟩)⟩)⟩)⟩)⟩)⟩)⟩)⟩)⟩)⟩)⟩)⟩) (by decide) (by decide) cx_L_77 (by decide +kernel) e1 e2 e3 ?_
              refine lv_astore (lv' := [(5, .ref q9), (0, .ref (P.2.1 0)), (1, .int x1), (2, .int x2), (3, .int x3), (4, .int x4)]) hx hb dL_act_121 hl (by decide) rfl (fun ls hl => ?_)
              refine lv_bipush (v := (-3)) hx hb dL_act_123 (by decide) ?_
              refine W.widen (k := 2) (n := 12) (by decide) (by decide) ?_
              exact ve_i (v := (-3)) S hF hP hr hk rfl dL_act_125
            · rw [if_neg k4] at h
              cases h
    · subst ho
      rw [Sum.elim_inr] at h
      obtain rfl := Option.some.inj h
      refine W.widen (k := 2) (n := 12) (by decide) (by decide) ?_
      exact ve_i (v := r2) S hF hP hr hk rfl dL_act_58
  rw [if_neg w1] at h
  by_cases w2 : x1 = 2
  · rw [if_pos w2] at h
    refine lv_tableIn (off := 58) (tgt := 59) hx hb dL_act_1 (by rw [w2]; decide) (by rw [w2]; decide) (by rw [w2]; rfl) (by decide) ?_
    obtain ⟨q1, hq1, h⟩ := ob h
    refine lv_aload_n hx hb dL_act_59 rfl (lv_at hl 0 rfl) ?_
    refine lv_iload_n hx hb dL_act_60 rfl (lv_at hl 2 rfl) ?_
    refine lv_iload hx hb dL_act_61 (lv_at hl 4 rfl) ?_
    refine vu_xi hP (vu_VX S hF hP (h := 0) (hlt _ (by decide)) rfl (by decide) rfl (c_X5_goal l P hA hn hst w x2 x4 hq1) ok_X5_goal ml_L_52 ⟨(Nat.le_of_ble_eq_true rfl), (Nat.le_of_ble_eq_true rfl)⟩ rfl hl.1 rfl (Nat.le_of_ble_eq_true rfl) dL_act_63 ⟨(Nat.le_of_ble_eq_true rfl), (Nat.le_of_ble_eq_true rfl)⟩) (fun H locs u ce q9 ho hP e1 e2 e3 => ?_) (fun H locs r2 u2 ho hP => ?_)
    · subst ho
      rw [Sum.elim_inl] at h
      unfold actX at h
      by_cases k3 : u.1 = 3
      · rw [if_pos k3] at h
        obtain rfl := Option.some.inj h
        refine ve_catch (j := 3) [(0, 50, 106, 71), (51, 58, 106, 71)] (59, 66, 106, 71) [(67, 72, 106, 71), (73, 79, 106, 71), (80, 93, 106, 71), (94, 100, 106, 71), (101, 105, 106, 71), (0, 50, 111, 73), (51, 58, 111, 73), (59, 66, 111, 73), (67, 72, 111, 73), (73, 79, 111, 73), (80, 93, 111, 73), (94, 100, 111, 73), (101, 105, 111, 73), (0, 50, 116, 75), (51, 58, 116, 75), (59, 66, 116, 75), (67, 72, 116, 75), (73, 79, 116, 75), (80, 93, 116, 75), (94, 100, 116, 75), (101, 105, 116, 75), (0, 50, 121, 77), (51, 58, 121, 77), (59, 66, 121, 77), (67, 72, 121, 77), (73, 79, 121, 77), (80, 93, 121, 77), (94, 100, 121, 77), (101, 105, 121, 77)] S hF htab k3 (List.forall_mem_cons.mpr ⟨Or.inl (by decide), (List.forall_mem_cons.mpr ⟨Or.inl (by decide), (fun _ z => absurd z List.not_mem_nil)⟩)⟩) (by decide) (by decide) cx_L_71 (by decide +kernel) e1 e2 e3 ?_
        refine lv_astore (lv' := [(5, .ref q9), (0, .ref (P.2.1 0)), (1, .int x1), (2, .int x2), (3, .int x3), (4, .int x4)]) hx hb dL_act_106 hl (by decide) rfl (fun ls hl => ?_)
        refine lv_bipush (v := (-2)) hx hb dL_act_108 (by decide) ?_
        refine W.widen (k := 2) (n := 12) (by decide) (by decide) ?_
        exact ve_i (v := (-2)) S hF hP hr hk rfl dL_act_110
      · rw [if_neg k3] at h
        by_cases k2 : u.1 = 2
        · rw [if_pos k2] at h
          obtain rfl := Option.some.inj h
          refine ve_catch (j := 2) [(0, 50, 106, 71), (51, 58, 106, 71), (59, 66, 106, 71), (67, 72, 106, 71), (73, 79, 106, 71), (80, 93, 106, 71), (94, 100, 106, 71), (101, 105, 106, 71), (0, 50, 111, 73), (51, 58, 111, 73)] (59, 66, 111, 73) [(67, 72, 111, 73), (73, 79, 111, 73), (80, 93, 111, 73), (94, 100, 111, 73), (101, 105, 111, 73), (0, 50, 116, 75), (51, 58, 116, 75), (59, 66, 116, 75), (67, 72, 116, 75), (73, 79, 116, 75), (80, 93, 116, 75), (94, 100, 116, 75), (101, 105, 116, 75), (0, 50, 121, 77), (51, 58, 121, 77), (59, 66, 121, 77), (67, 72, 121, 77), (73, 79, 121, 77), (80, 93, 121, 77), (94, 100, 121, 77), (101, 105, 121, 77)] S hF htab k2 (List.forall_mem_cons.mpr ⟨Or.inl (by decide), (List.forall_mem_cons.mpr ⟨Or.inl (by decide), (List.forall_mem_cons.mpr ⟨Or.inr ⟨by decide, _, cx_L_71, by decide +kernel⟩, (List.forall_mem_cons.mpr ⟨Or.inl (by decide), (List.forall_mem_cons.mpr ⟨Or.inl (by decide), (List.forall_mem_cons.mpr ⟨Or.inl (by decide), (List.forall_mem_cons.mpr ⟨Or.inl (by decide), (List.forall_mem_cons.mpr ⟨Or.inl (by decide), (List.forall_mem_cons.mpr ⟨Or.inl (by decide), (List.forall_mem_cons.mpr ⟨Or.inl (by decide), (fun _ z => absurd z List.not_mem_nil)⟩)⟩)⟩)⟩)⟩)⟩)⟩)⟩)⟩)⟩) (by decide) (by decide) cx_L_73 (by decide +kernel) e1 e2 e3 ?_
          refine lv_astore (lv' := [(5, .ref q9), (0, .ref (P.2.1 0)), (1, .int x1), (2, .int x2), (3, .int x3), (4, .int x4)]) hx hb dL_act_111 hl (by decide) rfl (fun ls hl => ?_)
          refine lv_bipush (v := (-3)) hx hb dL_act_113 (by decide) ?_
          refine W.widen (k := 2) (n := 12) (by decide) (by decide) ?_
          exact ve_i (v := (-3)) S hF hP hr hk rfl dL_act_115
        · rw [if_neg k2] at h
          by_cases k1 : u.1 = 1
          · rw [if_pos k1] at h
            obtain rfl := Option.some.inj h
            refine ve_catch (j := 1) [(0, 50, 106, 71), (51, 58, 106, 71), (59, 66, 106, 71), (67, 72, 106, 71), (73, 79, 106, 71), (80, 93, 106, 71), (94, 100, 106, 71), (101, 105, 106, 71), (0, 50, 111, 73), (51, 58, 111, 73), (59, 66, 111, 73), (67, 72, 111, 73), (73, 79, 111, 73), (80, 93, 111, 73), (94, 100, 111, 73), (101, 105, 111, 73), (0, 50, 116, 75), (51, 58, 116, 75)] (59, 66, 116, 75) [(67, 72, 116, 75), (73, 79, 116, 75), (80, 93, 116, 75), (94, 100, 116, 75), (101, 105, 116, 75), (0, 50, 121, 77), (51, 58, 121, 77), (59, 66, 121, 77), (67, 72, 121, 77), (73, 79, 121, 77), (80, 93, 121, 77), (94, 100, 121, 77), (101, 105, 121, 77)] S hF htab k1 (List.forall_mem_cons.mpr ⟨Or.inl (by decide), (List.forall_mem_cons.mpr ⟨Or.inl (by decide), (List.forall_mem_cons.mpr ⟨Or.inr ⟨by decide, _, cx_L_71, by decide +kernel⟩, (List.forall_mem_cons.mpr ⟨Or.inl (by decide), (List.forall_mem_cons.mpr ⟨Or.inl (by decide), (List.forall_mem_cons.mpr ⟨Or.inl (by decide), (List.forall_mem_cons.mpr ⟨Or.inl (by decide), (List.forall_mem_cons.mpr ⟨Or.inl (by decide), (List.forall_mem_cons.mpr ⟨Or.inl (by decide), (List.forall_mem_cons.mpr ⟨Or.inl (by decide), (List.forall_mem_cons.mpr ⟨Or.inr ⟨by decide, _, cx_L_73, by decide +kernel⟩, (List.forall_mem_cons.mpr ⟨Or.inl (by decide), (List.forall_mem_cons.mpr ⟨Or.inl (by decide), (List.forall_mem_cons.mpr ⟨Or.inl (by decide), (List.forall_mem_cons.mpr ⟨Or.inl (by decide), (List.forall_mem_cons.mpr ⟨Or.inl (by decide), (List.forall_mem_cons.mpr ⟨Or.inl (by decide), (List.forall_mem_cons.mpr ⟨Or.inl (by decide), (fun _ z => absurd z List.not_mem_nil)⟩)⟩)⟩)⟩)⟩)⟩)⟩)⟩)⟩)⟩)⟩)⟩)⟩)⟩)⟩)⟩)⟩)⟩) (by decide) (by decide) cx_L_75 (by decide +kernel) e1 e2 e3 ?_
            refine lv_astore (lv' := [(5, .ref q9), (0, .ref (P.2.1 0)), (1, .int x1), (2, .int x2), (3, .int x3), (4, .int x4)]) hx hb dL_act_116 hl (by decide) rfl (fun ls hl => ?_)
            refine lv_bipush (v := (-3)) hx hb dL_act_118 (by decide) ?_
            refine W.widen (k := 2) (n := 12) (by decide) (by decide) ?_
            exact ve_i (v := (-3)) S hF hP hr hk rfl dL_act_120
          · rw [if_neg k1] at h
            by_cases k4 : u.1 = 4
            · rw [if_pos k4] at h
              obtain rfl := Option.some.inj h
              refine ve_catch (j := 4) [(0, 50, 106, 71), (51, 58, 106, 71), (59, 66, 106, 71), (67, 72, 106, 71), (73, 79, 106, 71), (80, 93, 106, 71), (94, 100, 106, 71), (101, 105, 106, 71), (0, 50, 111, 73), (51, 58, 111, 73), (59, 66, 111, 73), (67, 72, 111, 73), (73, 79, 111, 73), (80, 93, 111, 73), (94, 100, 111, 73), (101, 105, 111, 73), (0, 50, 116, 75), (51, 58, 116, 75), (59, 66, 116, 75), (67, 72, 116, 75), (73, 79, 116, 75), (80, 93, 116, 75), (94, 100, 116, 75), (101, 105, 116, 75), (0, 50, 121, 77), (51, 58, 121, 77)] (59, 66, 121, 77) [(67, 72, 121, 77), (73, 79, 121, 77), (80, 93, 121, 77), (94, 100, 121, 77), (101, 105, 121, 77)] S hF htab k4 (List.forall_mem_cons.mpr ⟨Or.inl (by decide), (List.forall_mem_cons.mpr ⟨Or.inl (by decide), (List.forall_mem_cons.mpr ⟨Or.inr ⟨by decide, _, cx_L_71, by decide +kernel⟩, (List.forall_mem_cons.mpr ⟨Or.inl (by decide), (List.forall_mem_cons.mpr ⟨Or.inl (by decide), (List.forall_mem_cons.mpr ⟨Or.inl (by decide), (List.forall_mem_cons.mpr ⟨Or.inl (by decide), (List.forall_mem_cons.mpr ⟨Or.inl (by decide), (List.forall_mem_cons.mpr ⟨Or.inl (by decide), (List.forall_mem_cons.mpr ⟨Or.inl (by decide), (List.forall_mem_cons.mpr ⟨Or.inr ⟨by decide, _, cx_L_73, by decide +kernel⟩, (List.forall_mem_cons.mpr ⟨Or.inl (by decide), (List.forall_mem_cons.mpr ⟨Or.inl (by decide), (List.forall_mem_cons.mpr ⟨Or.inl (by decide), (List.forall_mem_cons.mpr ⟨Or.inl (by decide), (List.forall_mem_cons.mpr ⟨Or.inl (by decide), (List.forall_mem_cons.mpr ⟨Or.inl (by decide), (List.forall_mem_cons.mpr ⟨Or.inl (by decide), (List.forall_mem_cons.mpr ⟨Or.inr ⟨by decide, _, cx_L_75, by decide +kernel⟩, (List.forall_mem_cons.mpr ⟨Or.inl (by decide), (List.forall_mem_cons.mpr ⟨Or.inl (by decide), (List.forall_mem_cons.mpr ⟨Or.inl (by decide), (List.forall_mem_cons.mpr ⟨Or.inl (by decide), (List.forall_mem_cons.mpr ⟨Or.inl (by decide), (List.forall_mem_cons.mpr ⟨Or.inl (by decide), (List.forall_mem_cons.mpr ⟨Or.inl (by decide), (fun _ z => absurd z List.not_mem_nil)⟩)⟩)⟩)⟩)⟩)⟩)⟩)⟩)⟩)⟩)⟩)⟩)⟩)⟩)⟩)⟩)⟩)⟩)⟩)⟩)⟩)⟩)⟩)⟩)⟩)⟩) (by decide) (by decide) cx_L_77 (by decide +kernel) e1 e2 e3 ?_
              refine lv_astore (lv' := [(5, .ref q9), (0, .ref (P.2.1 0)), (1, .int x1), (2, .int x2), (3, .int x3), (4, .int x4)]) hx hb dL_act_121 hl (by decide) rfl (fun ls hl => ?_)
              refine lv_bipush (v := (-3)) hx hb dL_act_123 (by decide) ?_
              refine W.widen (k := 2) (n := 12) (by decide) (by decide) ?_
              exact ve_i (v := (-3)) S hF hP hr hk rfl dL_act_125
            · rw [if_neg k4] at h
              cases h
    · subst ho
      rw [Sum.elim_inr] at h
      obtain rfl := Option.some.inj h
      refine W.widen (k := 2) (n := 12) (by decide) (by decide) ?_
      exact ve_i (v := r2) S hF hP hr hk rfl dL_act_66
  rw [if_neg w2] at h
  by_cases w3 : x1 = 3
  · rw [if_pos w3] at h
    refine lv_tableIn (off := 66) (tgt := 67) hx hb dL_act_1 (by rw [w3]; decide) (by rw [w3]; decide) (by rw [w3]; rfl) (by decide) ?_
    obtain ⟨q1, hq1, h⟩ := ob h
    refine lv_aload_n hx hb dL_act_67 rfl (lv_at hl 0 rfl) ?_
    refine lv_iload_n hx hb dL_act_68 rfl (lv_at hl 2 rfl) ?_
    refine vu_xi hP (vu_VX S hF hP (h := 0) (hlt _ (by decide)) rfl (by decide) rfl (c_X5_turn l P hA hn hst w x2 hq1) ok_X5_turn ml_L_55 ⟨(Nat.le_of_ble_eq_true rfl), (Nat.le_of_ble_eq_true rfl)⟩ rfl hl.1 rfl (Nat.le_of_ble_eq_true rfl) dL_act_69 ⟨(Nat.le_of_ble_eq_true rfl), (Nat.le_of_ble_eq_true rfl)⟩) (fun H locs u ce q9 ho hP e1 e2 e3 => ?_) (fun H locs r2 u2 ho hP => ?_)
    · subst ho
      rw [Sum.elim_inl] at h
      unfold actX at h
      by_cases k3 : u.1 = 3
      · rw [if_pos k3] at h
        obtain rfl := Option.some.inj h
        refine ve_catch (j := 3) [(0, 50, 106, 71), (51, 58, 106, 71), (59, 66, 106, 71)] (67, 72, 106, 71) [(73, 79, 106, 71), (80, 93, 106, 71), (94, 100, 106, 71), (101, 105, 106, 71), (0, 50, 111, 73), (51, 58, 111, 73), (59, 66, 111, 73), (67, 72, 111, 73), (73, 79, 111, 73), (80, 93, 111, 73), (94, 100, 111, 73), (101, 105, 111, 73), (0, 50, 116, 75), (51, 58, 116, 75), (59, 66, 116, 75), (67, 72, 116, 75), (73, 79, 116, 75), (80, 93, 116, 75), (94, 100, 116, 75), (101, 105, 116, 75), (0, 50, 121, 77), (51, 58, 121, 77), (59, 66, 121, 77), (67, 72, 121, 77), (73, 79, 121, 77), (80, 93, 121, 77), (94, 100, 121, 77), (101, 105, 121, 77)] S hF htab k3 (List.forall_mem_cons.mpr ⟨Or.inl (by decide), (List.forall_mem_cons.mpr ⟨Or.inl (by decide), (List.forall_mem_cons.mpr ⟨Or.inl (by decide), (fun _ z => absurd z List.not_mem_nil)⟩)⟩)⟩) (by decide) (by decide) cx_L_71 (by decide +kernel) e1 e2 e3 ?_
        refine lv_astore (lv' := [(5, .ref q9), (0, .ref (P.2.1 0)), (1, .int x1), (2, .int x2), (3, .int x3), (4, .int x4)]) hx hb dL_act_106 hl (by decide) rfl (fun ls hl => ?_)
        refine lv_bipush (v := (-2)) hx hb dL_act_108 (by decide) ?_
        refine W.widen (k := 2) (n := 12) (by decide) (by decide) ?_
        exact ve_i (v := (-2)) S hF hP hr hk rfl dL_act_110
      · rw [if_neg k3] at h
        by_cases k2 : u.1 = 2
        · rw [if_pos k2] at h
          obtain rfl := Option.some.inj h
          refine ve_catch (j := 2) [(0, 50, 106, 71), (51, 58, 106, 71), (59, 66, 106, 71), (67, 72, 106, 71), (73, 79, 106, 71), (80, 93, 106, 71), (94, 100, 106, 71), (101, 105, 106, 71), (0, 50, 111, 73), (51, 58, 111, 73), (59, 66, 111, 73)] (67, 72, 111, 73) [(73, 79, 111, 73), (80, 93, 111, 73), (94, 100, 111, 73), (101, 105, 111, 73), (0, 50, 116, 75), (51, 58, 116, 75), (59, 66, 116, 75), (67, 72, 116, 75), (73, 79, 116, 75), (80, 93, 116, 75), (94, 100, 116, 75), (101, 105, 116, 75), (0, 50, 121, 77), (51, 58, 121, 77), (59, 66, 121, 77), (67, 72, 121, 77), (73, 79, 121, 77), (80, 93, 121, 77), (94, 100, 121, 77), (101, 105, 121, 77)] S hF htab k2 (List.forall_mem_cons.mpr ⟨Or.inl (by decide), (List.forall_mem_cons.mpr ⟨Or.inl (by decide), (List.forall_mem_cons.mpr ⟨Or.inl (by decide), (List.forall_mem_cons.mpr ⟨Or.inr ⟨by decide, _, cx_L_71, by decide +kernel⟩, (List.forall_mem_cons.mpr ⟨Or.inl (by decide), (List.forall_mem_cons.mpr ⟨Or.inl (by decide), (List.forall_mem_cons.mpr ⟨Or.inl (by decide), (List.forall_mem_cons.mpr ⟨Or.inl (by decide), (List.forall_mem_cons.mpr ⟨Or.inl (by decide), (List.forall_mem_cons.mpr ⟨Or.inl (by decide), (List.forall_mem_cons.mpr ⟨Or.inl (by decide), (fun _ z => absurd z List.not_mem_nil)⟩)⟩)⟩)⟩)⟩)⟩)⟩)⟩)⟩)⟩)⟩) (by decide) (by decide) cx_L_73 (by decide +kernel) e1 e2 e3 ?_
          refine lv_astore (lv' := [(5, .ref q9), (0, .ref (P.2.1 0)), (1, .int x1), (2, .int x2), (3, .int x3), (4, .int x4)]) hx hb dL_act_111 hl (by decide) rfl (fun ls hl => ?_)
          refine lv_bipush (v := (-3)) hx hb dL_act_113 (by decide) ?_
          refine W.widen (k := 2) (n := 12) (by decide) (by decide) ?_
          exact ve_i (v := (-3)) S hF hP hr hk rfl dL_act_115
        · rw [if_neg k2] at h
          by_cases k1 : u.1 = 1
          · rw [if_pos k1] at h
            obtain rfl := Option.some.inj h
            refine ve_catch (j := 1) [(0, 50, 106, 71), (51, 58, 106, 71), (59, 66, 106, 71), (67, 72, 106, 71), (73, 79, 106, 71), (80, 93, 106, 71), (94, 100, 106, 71), (101, 105, 106, 71), (0, 50, 111, 73), (51, 58, 111, 73), (59, 66, 111, 73), (67, 72, 111, 73), (73, 79, 111, 73), (80, 93, 111, 73), (94, 100, 111, 73), (101, 105, 111, 73), (0, 50, 116, 75), (51, 58, 116, 75), (59, 66, 116, 75)] (67, 72, 116, 75) [(73, 79, 116, 75), (80, 93, 116, 75), (94, 100, 116, 75), (101, 105, 116, 75), (0, 50, 121, 77), (51, 58, 121, 77), (59, 66, 121, 77), (67, 72, 121, 77), (73, 79, 121, 77), (80, 93, 121, 77), (94, 100, 121, 77), (101, 105, 121, 77)] S hF htab k1 (List.forall_mem_cons.mpr ⟨Or.inl (by decide), (List.forall_mem_cons.mpr ⟨Or.inl (by decide), (List.forall_mem_cons.mpr ⟨Or.inl (by decide), (List.forall_mem_cons.mpr ⟨Or.inr ⟨by decide, _, cx_L_71, by decide +kernel⟩, (List.forall_mem_cons.mpr ⟨Or.inl (by decide), (List.forall_mem_cons.mpr ⟨Or.inl (by decide), (List.forall_mem_cons.mpr ⟨Or.inl (by decide), (List.forall_mem_cons.mpr ⟨Or.inl (by decide), (List.forall_mem_cons.mpr ⟨Or.inl (by decide), (List.forall_mem_cons.mpr ⟨Or.inl (by decide), (List.forall_mem_cons.mpr ⟨Or.inl (by decide), (List.forall_mem_cons.mpr ⟨Or.inr ⟨by decide, _, cx_L_73, by decide +kernel⟩, (List.forall_mem_cons.mpr ⟨Or.inl (by decide), (List.forall_mem_cons.mpr ⟨Or.inl (by decide), (List.forall_mem_cons.mpr ⟨Or.inl (by decide), (List.forall_mem_cons.mpr ⟨Or.inl (by decide), (List.forall_mem_cons.mpr ⟨Or.inl (by decide), (List.forall_mem_cons.mpr ⟨Or.inl (by decide), (List.forall_mem_cons.mpr ⟨Or.inl (by decide), (fun _ z => absurd z List.not_mem_nil)⟩)⟩)⟩)⟩)⟩)⟩)⟩)⟩)⟩)⟩)⟩)⟩)⟩)⟩)⟩)⟩)⟩)⟩)⟩) (by decide) (by decide) cx_L_75 (by decide +kernel) e1 e2 e3 ?_
            refine lv_astore (lv' := [(5, .ref q9), (0, .ref (P.2.1 0)), (1, .int x1), (2, .int x2), (3, .int x3), (4, .int x4)]) hx hb dL_act_116 hl (by decide) rfl (fun ls hl => ?_)
            refine lv_bipush (v := (-3)) hx hb dL_act_118 (by decide) ?_
            refine W.widen (k := 2) (n := 12) (by decide) (by decide) ?_
            exact ve_i (v := (-3)) S hF hP hr hk rfl dL_act_120
          · rw [if_neg k1] at h
            by_cases k4 : u.1 = 4
            · rw [if_pos k4] at h
              obtain rfl := Option.some.inj h
              refine ve_catch (j := 4) [(0, 50, 106, 71), (51, 58, 106, 71), (59, 66, 106, 71), (67, 72, 106, 71), (73, 79, 106, 71), (80, 93, 106, 71), (94, 100, 106, 71), (101, 105, 106, 71), (0, 50, 111, 73), (51, 58, 111, 73), (59, 66, 111, 73), (67, 72, 111, 73), (73, 79, 111, 73), (80, 93, 111, 73), (94, 100, 111, 73), (101, 105, 111, 73), (0, 50, 116, 75), (51, 58, 116, 75), (59, 66, 116, 75), (67, 72, 116, 75), (73, 79, 116, 75), (80, 93, 116, 75), (94, 100, 116, 75), (101, 105, 116, 75), (0, 50, 121, 77), (51, 58, 121, 77), (59, 66, 121, 77)] (67, 72, 121, 77) [(73, 79, 121, 77), (80, 93, 121, 77), (94, 100, 121, 77), (101, 105, 121, 77)] S hF htab k4 (List.forall_mem_cons.mpr ⟨Or.inl (by decide), (List.forall_mem_cons.mpr ⟨Or.inl (by decide), (List.forall_mem_cons.mpr ⟨Or.inl (by decide), (List.forall_mem_cons.mpr ⟨Or.inr ⟨by decide, _, cx_L_71, by decide +kernel⟩, (List.forall_mem_cons.mpr ⟨Or.inl (by decide), (List.forall_mem_cons.mpr ⟨Or.inl (by decide), (List.forall_mem_cons.mpr ⟨Or.inl (by decide), (List.forall_mem_cons.mpr ⟨Or.inl (by decide), (List.forall_mem_cons.mpr ⟨Or.inl (by decide), (List.forall_mem_cons.mpr ⟨Or.inl (by decide), (List.forall_mem_cons.mpr ⟨Or.inl (by decide), (List.forall_mem_cons.mpr ⟨Or.inr ⟨by decide, _, cx_L_73, by decide +kernel⟩, (List.forall_mem_cons.mpr ⟨Or.inl (by decide), (List.forall_mem_cons.mpr ⟨Or.inl (by decide), (List.forall_mem_cons.mpr ⟨Or.inl (by decide), (List.forall_mem_cons.mpr ⟨Or.inl (by decide), (List.forall_mem_cons.mpr ⟨Or.inl (by decide), (List.forall_mem_cons.mpr ⟨Or.inl (by decide), (List.forall_mem_cons.mpr ⟨Or.inl (by decide), (List.forall_mem_cons.mpr ⟨Or.inr ⟨by decide, _, cx_L_75, by decide +kernel⟩, (List.forall_mem_cons.mpr ⟨Or.inl (by decide), (List.forall_mem_cons.mpr ⟨Or.inl (by decide), (List.forall_mem_cons.mpr ⟨Or.inl (by decide), (List.forall_mem_cons.mpr ⟨Or.inl (by decide), (List.forall_mem_cons.mpr ⟨Or.inl (by decide), (List.forall_mem_cons.mpr ⟨Or.inl (by decide), (List.forall_mem_cons.mpr ⟨Or.inl (by decide), (fun _ z => absurd z List.not_mem_nil)⟩)⟩)⟩)⟩)⟩)⟩)⟩)⟩)⟩)⟩)⟩)⟩)⟩)⟩)⟩)⟩)⟩)⟩)⟩)⟩)⟩)⟩)⟩)⟩)⟩)⟩)⟩) (by decide) (by decide) cx_L_77 (by decide +kernel) e1 e2 e3 ?_
              refine lv_astore (lv' := [(5, .ref q9), (0, .ref (P.2.1 0)), (1, .int x1), (2, .int x2), (3, .int x3), (4, .int x4)]) hx hb dL_act_121 hl (by decide) rfl (fun ls hl => ?_)
              refine lv_bipush (v := (-3)) hx hb dL_act_123 (by decide) ?_
              refine W.widen (k := 2) (n := 12) (by decide) (by decide) ?_
              exact ve_i (v := (-3)) S hF hP hr hk rfl dL_act_125
            · rw [if_neg k4] at h
              cases h
    · subst ho
      rw [Sum.elim_inr] at h
      obtain rfl := Option.some.inj h
      refine W.widen (k := 2) (n := 12) (by decide) (by decide) ?_
      exact ve_i (v := r2) S hF hP hr hk rfl dL_act_72
  rw [if_neg w3] at h
  by_cases w4 : x1 = 4
  · rw [if_pos w4] at h
    refine lv_tableIn (off := 72) (tgt := 73) hx hb dL_act_1 (by rw [w4]; decide) (by rw [w4]; decide) (by rw [w4]; rfl) (by decide) ?_
    obtain ⟨q1, hq1, h⟩ := ob h
    refine lv_aload_n hx hb dL_act_73 rfl (lv_at hl 0 rfl) ?_
    refine lv_iload_n hx hb dL_act_74 rfl (lv_at hl 2 rfl) ?_
    refine lv_iload_n hx hb dL_act_75 rfl (lv_at hl 3 rfl) ?_
    refine vu_xi hP (vu_VX S hF hP (h := 0) (hlt _ (by decide)) rfl (by decide) rfl (c_X5_swap l P hA hn hst w x2 x3 hq1) ok_X5_swap ml_L_58 ⟨(Nat.le_of_ble_eq_true rfl), (Nat.le_of_ble_eq_true rfl)⟩ rfl hl.1 rfl (Nat.le_of_ble_eq_true rfl) dL_act_76 ⟨(Nat.le_of_ble_eq_true rfl), (Nat.le_of_ble_eq_true rfl)⟩) (fun H locs u ce q9 ho hP e1 e2 e3 => ?_) (fun H locs r2 u2 ho hP => ?_)
    · subst ho
      rw [Sum.elim_inl] at h
      unfold actX at h
      by_cases k3 : u.1 = 3
      · rw [if_pos k3] at h
        obtain rfl := Option.some.inj h
        refine ve_catch (j := 3) [(0, 50, 106, 71), (51, 58, 106, 71), (59, 66, 106, 71), (67, 72, 106, 71)] (73, 79, 106, 71) [(80, 93, 106, 71), (94, 100, 106, 71), (101, 105, 106, 71), (0, 50, 111, 73), (51, 58, 111, 73), (59, 66, 111, 73), (67, 72, 111, 73), (73, 79, 111, 73), (80, 93, 111, 73), (94, 100, 111, 73), (101, 105, 111, 73), (0, 50, 116, 75), (51, 58, 116, 75), (59, 66, 116, 75), (67, 72, 116, 75), (73, 79, 116, 75), (80, 93, 116, 75), (94, 100, 116, 75), (101, 105, 116, 75), (0, 50, 121, 77), (51, 58, 121, 77), (59, 66, 121, 77), (67, 72, 121, 77), (73, 79, 121, 77), (80, 93, 121, 77), (94, 100, 121, 77), (101, 105, 121, 77)] S hF htab k3 (List.forall_mem_cons.mpr ⟨Or.inl (by decide), (List.forall_mem_cons.mpr ⟨Or.inl (by decide), (List.forall_mem_cons.mpr ⟨Or.inl (by decide), (List.forall_mem_cons.mpr ⟨Or.inl (by decide), (fun _ z => absurd z List.not_mem_nil)⟩)⟩)⟩)⟩) (by decide) (by decide) cx_L_71 (by decide +kernel) e1 e2 e3 ?_
        refine lv_astore (lv' := [(5, .ref q9), (0, .ref (P.2.1 0)), (1, .int x1), (2, .int x2), (3, .int x3), (4, .int x4)]) hx hb dL_act_106 hl (by decide) rfl (fun ls hl => ?_)
        refine lv_bipush (v := (-2)) hx hb dL_act_108 (by decide) ?_
        refine W.widen (k := 2) (n := 12) (by decide) (by decide) ?_
        exact ve_i (v := (-2)) S hF hP hr hk rfl dL_act_110
      · rw [if_neg k3] at h
        by_cases k2 : u.1 = 2
        · rw [if_pos k2] at h
          obtain rfl := Option.some.inj h
          refine ve_catch (j := 2) [(0, 50, 106, 71), (51, 58, 106, 71), (59, 66, 106, 71), (67, 72, 106, 71), (73, 79, 106, 71), (80, 93, 106, 71), (94, 100, 106, 71), (101, 105, 106, 71), (0, 50, 111, 73), (51, 58, 111, 73), (59, 66, 111, 73), (67, 72, 111, 73)] (73, 79, 111, 73) [(80, 93, 111, 73), (94, 100, 111, 73), (101, 105, 111, 73), (0, 50, 116, 75), (51, 58, 116, 75), (59, 66, 116, 75), (67, 72, 116, 75), (73, 79, 116, 75), (80, 93, 116, 75), (94, 100, 116, 75), (101, 105, 116, 75), (0, 50, 121, 77), (51, 58, 121, 77), (59, 66, 121, 77), (67, 72, 121, 77), (73, 79, 121, 77), (80, 93, 121, 77), (94, 100, 121, 77), (101, 105, 121, 77)] S hF htab k2 (List.forall_mem_cons.mpr ⟨Or.inl (by decide), (List.forall_mem_cons.mpr ⟨Or.inl (by decide), (List.forall_mem_cons.mpr ⟨Or.inl (by decide), (List.forall_mem_cons.mpr ⟨Or.inl (by decide), (List.forall_mem_cons.mpr ⟨Or.inr ⟨by decide, _, cx_L_71, by decide +kernel⟩, (List.forall_mem_cons.mpr ⟨Or.inl (by decide), (List.forall_mem_cons.mpr ⟨Or.inl (by decide), (List.forall_mem_cons.mpr ⟨Or.inl (by decide), (List.forall_mem_cons.mpr ⟨Or.inl (by decide), (List.forall_mem_cons.mpr ⟨Or.inl (by decide), (List.forall_mem_cons.mpr ⟨Or.inl (by decide), (List.forall_mem_cons.mpr ⟨Or.inl (by decide), (fun _ z => absurd z List.not_mem_nil)⟩)⟩)⟩)⟩)⟩)⟩)⟩)⟩)⟩)⟩)⟩)⟩) (by decide) (by decide) cx_L_73 (by decide +kernel) e1 e2 e3 ?_
          refine lv_astore (lv' := [(5, .ref q9), (0, .ref (P.2.1 0)), (1, .int x1), (2, .int x2), (3, .int x3), (4, .int x4)]) hx hb dL_act_111 hl (by decide) rfl (fun ls hl => ?_)
          refine lv_bipush (v := (-3)) hx hb dL_act_113 (by decide) ?_
          refine W.widen (k := 2) (n := 12) (by decide) (by decide) ?_
          exact ve_i (v := (-3)) S hF hP hr hk rfl dL_act_115
        · rw [if_neg k2] at h
          by_cases k1 : u.1 = 1
          · rw [if_pos k1] at h
            obtain rfl := Option.some.inj h
            refine ve_catch (j := 1) [(0, 50, 106, 71), (51, 58, 106, 71), (59, 66, 106, 71), (67, 72, 106, 71), (73, 79, 106, 71), (80, 93, 106, 71), (94, 100, 106, 71), (101, 105, 106, 71), (0, 50, 111, 73), (51, 58, 111, 73), (59, 66, 111, 73), (67, 72, 111, 73), (73, 79, 111, 73), (80, 93, 111, 73), (94, 100, 111, 73), (101, 105, 111, 73), (0, 50, 116, 75), (51, 58, 116, 75), (59, 66, 116, 75), (67, 72, 116, 75)] (73, 79, 116, 75) [(80, 93, 116, 75), (94, 100, 116, 75), (101, 105, 116, 75), (0, 50, 121, 77), (51, 58, 121, 77), (59, 66, 121, 77), (67, 72, 121, 77), (73, 79, 121, 77), (80, 93, 121, 77), (94, 100, 121, 77), (101, 105, 121, 77)] S hF htab k1 (List.forall_mem_cons.mpr ⟨Or.inl (by decide), (List.forall_mem_cons.mpr ⟨Or.inl (by decide), (List.forall_mem_cons.mpr ⟨Or.inl (by decide), (List.forall_mem_cons.mpr ⟨Or.inl (by decide), (List.forall_mem_cons.mpr ⟨Or.inr ⟨by decide, _, cx_L_71, by decide +kernel⟩, (List.forall_mem_cons.mpr ⟨Or.inl (by decide), (List.forall_mem_cons.mpr ⟨Or.inl (by decide), (List.forall_mem_cons.mpr ⟨Or.inl (by decide), (List.forall_mem_cons.mpr ⟨Or.inl (by decide), (List.forall_mem_cons.mpr ⟨Or.inl (by decide), (List.forall_mem_cons.mpr ⟨Or.inl (by decide), (List.forall_mem_cons.mpr ⟨Or.inl (by decide), (List.forall_mem_cons.mpr ⟨Or.inr ⟨by decide, _, cx_L_73, by decide +kernel⟩, (List.forall_mem_cons.mpr ⟨Or.inl (by decide), (List.forall_mem_cons.mpr ⟨Or.inl (by decide), (List.forall_mem_cons.mpr ⟨Or.inl (by decide), (List.forall_mem_cons.mpr ⟨Or.inl (by decide), (List.forall_mem_cons.mpr ⟨Or.inl (by decide), (List.forall_mem_cons.mpr ⟨Or.inl (by decide), (List.forall_mem_cons.mpr ⟨Or.inl (by decide), (fun _ z => absurd z List.not_mem_nil)⟩)⟩)⟩)⟩)⟩)⟩)⟩)⟩)⟩)⟩)⟩)⟩)⟩)⟩)⟩)⟩)⟩)⟩)⟩)⟩) (by decide) (by decide) cx_L_75 (by decide +kernel) e1 e2 e3 ?_
            refine lv_astore (lv' := [(5, .ref q9), (0, .ref (P.2.1 0)), (1, .int x1), (2, .int x2), (3, .int x3), (4, .int x4)]) hx hb dL_act_116 hl (by decide) rfl (fun ls hl => ?_)
            refine lv_bipush (v := (-3)) hx hb dL_act_118 (by decide) ?_
            refine W.widen (k := 2) (n := 12) (by decide) (by decide) ?_
            exact ve_i (v := (-3)) S hF hP hr hk rfl dL_act_120
          · rw [if_neg k1] at h
            by_cases k4 : u.1 = 4
            · rw [if_pos k4] at h
              obtain rfl := Option.some.inj h
              refine ve_catch (j := 4) [(0, 50, 106, 71), (51, 58, 106, 71), (59, 66, 106, 71), (67, 72, 106, 71), (73, 79, 106, 71), (80, 93, 106, 71), (94, 100, 106, 71), (101, 105, 106, 71), (0, 50, 111, 73), (51, 58, 111, 73), (59, 66, 111, 73), (67, 72, 111, 73), (73, 79, 111, 73), (80, 93, 111, 73), (94, 100, 111, 73), (101, 105, 111, 73), (0, 50, 116, 75), (51, 58, 116, 75), (59, 66, 116, 75), (67, 72, 116, 75), (73, 79, 116, 75), (80, 93, 116, 75), (94, 100, 116, 75), (101, 105, 116, 75), (0, 50, 121, 77), (51, 58, 121, 77), (59, 66, 121, 77), (67, 72, 121, 77)] (73, 79, 121, 77) [(80, 93, 121, 77), (94, 100, 121, 77), (101, 105, 121, 77)] S hF htab k4 (List.forall_mem_cons.mpr ⟨Or.inl (by decide), (List.forall_mem_cons.mpr ⟨Or.inl (by decide), (List.forall_mem_cons.mpr ⟨Or.inl (by decide), (List.forall_mem_cons.mpr ⟨Or.inl (by decide), (List.forall_mem_cons.mpr ⟨Or.inr ⟨by decide, _, cx_L_71, by decide +kernel⟩, (List.forall_mem_cons.mpr ⟨Or.inl (by decide), (List.forall_mem_cons.mpr ⟨Or.inl (by decide), (List.forall_mem_cons.mpr ⟨Or.inl (by decide), (List.forall_mem_cons.mpr ⟨Or.inl (by decide), (List.forall_mem_cons.mpr ⟨Or.inl (by decide), (List.forall_mem_cons.mpr ⟨Or.inl (by decide), (List.forall_mem_cons.mpr ⟨Or.inl (by decide), (List.forall_mem_cons.mpr ⟨Or.inr ⟨by decide, _, cx_L_73, by decide +kernel⟩, (List.forall_mem_cons.mpr ⟨Or.inl (by decide), (List.forall_mem_cons.mpr ⟨Or.inl (by decide), (List.forall_mem_cons.mpr ⟨Or.inl (by decide), (List.forall_mem_cons.mpr ⟨Or.inl (by decide), (List.forall_mem_cons.mpr ⟨Or.inl (by decide), (List.forall_mem_cons.mpr ⟨Or.inl (by decide), (List.forall_mem_cons.mpr ⟨Or.inl (by decide), (List.forall_mem_cons.mpr ⟨Or.inr ⟨by decide, _, cx_L_75, by decide +kernel⟩, (List.forall_mem_cons.mpr ⟨Or.inl (by decide), (List.forall_mem_cons.mpr ⟨Or.inl (by decide), (List.forall_mem_cons.mpr ⟨Or.inl (by decide), (List.forall_mem_cons.mpr ⟨Or.inl (by decide), (List.forall_mem_cons.mpr ⟨Or.inl (by decide), (List.forall_mem_cons.mpr ⟨Or.inl (by decide), (List.forall_mem_cons.mpr ⟨Or.inl (by decide), (fun _ z => absurd z List.not_mem_nil)⟩)⟩)⟩)⟩)⟩)⟩)⟩)⟩)⟩)⟩)⟩)⟩)⟩)⟩)⟩)⟩)⟩)⟩)⟩)⟩)⟩)⟩)⟩)⟩)⟩)⟩)⟩)⟩) (by decide) (by decide) cx_L_77 (by decide +kernel) e1 e2 e3 ?_
              refine lv_astore (lv' := [(5, .ref q9), (0, .ref (P.2.1 0)), (1, .int x1), (2, .int x2), (3, .int x3), (4, .int x4)]) hx hb dL_act_121 hl (by decide) rfl (fun ls hl => ?_)
              refine lv_bipush (v := (-3)) hx hb dL_act_123 (by decide) ?_
              refine W.widen (k := 2) (n := 12) (by decide) (by decide) ?_
              exact ve_i (v := (-3)) S hF hP hr hk rfl dL_act_125
            · rw [if_neg k4] at h
              cases h
    · subst ho
      rw [Sum.elim_inr] at h
      obtain rfl := Option.some.inj h
      refine W.widen (k := 2) (n := 12) (by decide) (by decide) ?_
      exact ve_i (v := r2) S hF hP hr hk rfl dL_act_79
  rw [if_neg w4] at h
  by_cases w5 : x1 = 5
  · rw [if_pos w5] at h
    refine lv_tableIn (off := 79) (tgt := 80) hx hb dL_act_1 (by rw [w5]; decide) (by rw [w5]; decide) (by rw [w5]; rfl) (by decide) ?_
    obtain ⟨q1, hq1, h⟩ := ob h
    refine lv_aload_n hx hb dL_act_80 rfl (lv_at hl 0 rfl) ?_
    refine lv_iload_n hx hb dL_act_81 rfl (lv_at hl 2 rfl) ?_
    refine vu_xi hP (vu_VX S hF hP (h := 0) (hlt _ (by decide)) rfl (by decide) rfl (c_X5_bar l P hA hn hst w x2 hq1) ok_X5_bar ml_L_61 ⟨(Nat.le_of_ble_eq_true rfl), (Nat.le_of_ble_eq_true rfl)⟩ rfl hl.1 rfl (Nat.le_of_ble_eq_true rfl) dL_act_82 ⟨(Nat.le_of_ble_eq_true rfl), (Nat.le_of_ble_eq_true rfl)⟩) (fun H locs u ce q9 ho hP e1 e2 e3 => ?_) (fun H locs r2 u2 ho hP => ?_)
    · subst ho
      rw [Sum.elim_inl] at h
      unfold actX at h
      by_cases k3 : u.1 = 3
      · rw [if_pos k3] at h
        obtain rfl := Option.some.inj h
        refine ve_catch (j := 3) [(0, 50, 106, 71), (51, 58, 106, 71), (59, 66, 106, 71), (67, 72, 106, 71), (73, 79, 106, 71)] (80, 93, 106, 71) [(94, 100, 106, 71), (101, 105, 106, 71), (0, 50, 111, 73), (51, 58, 111, 73), (59, 66, 111, 73), (67, 72, 111, 73), (73, 79, 111, 73), (80, 93, 111, 73), (94, 100, 111, 73), (101, 105, 111, 73), (0, 50, 116, 75), (51, 58, 116, 75), (59, 66, 116, 75), (67, 72, 116, 75), (73, 79, 116, 75), (80, 93, 116, 75), (94, 100, 116, 75), (101, 105, 116, 75), (0, 50, 121, 77), (51, 58, 121, 77), (59, 66, 121, 77), (67, 72, 121, 77), (73, 79, 121, 77), (80, 93, 121, 77), (94, 100, 121, 77), (101, 105, 121, 77)] S hF htab k3 (List.forall_mem_cons.mpr ⟨Or.inl (by decide), (List.forall_mem_cons.mpr ⟨Or.inl (by decide), (List.forall_mem_cons.mpr ⟨Or.inl (by decide), (List.forall_mem_cons.mpr ⟨Or.inl (by decide), (List.forall_mem_cons.mpr ⟨Or.inl (by decide), (fun _ z => absurd z List.not_mem_nil)⟩)⟩)⟩)⟩)⟩) (by decide) (by decide) cx_L_71 (by decide +kernel) e1 e2 e3 ?_
        refine lv_astore (lv' := [(5, .ref q9), (0, .ref (P.2.1 0)), (1, .int x1), (2, .int x2), (3, .int x3), (4, .int x4)]) hx hb dL_act_106 hl (by decide) rfl (fun ls hl => ?_)
        refine lv_bipush (v := (-2)) hx hb dL_act_108 (by decide) ?_
        refine W.widen (k := 2) (n := 12) (by decide) (by decide) ?_
        exact ve_i (v := (-2)) S hF hP hr hk rfl dL_act_110
      · rw [if_neg k3] at h
        by_cases k2 : u.1 = 2
        · rw [if_pos k2] at h
          obtain rfl := Option.some.inj h
          refine ve_catch (j := 2) [(0, 50, 106, 71), (51, 58, 106, 71), (59, 66, 106, 71), (67, 72, 106, 71), (73, 79, 106, 71), (80, 93, 106, 71), (94, 100, 106, 71), (101, 105, 106, 71), (0, 50, 111, 73), (51, 58, 111, 73), (59, 66, 111, 73), (67, 72, 111, 73), (73, 79, 111, 73)] (80, 93, 111, 73) [(94, 100, 111, 73), (101, 105, 111, 73), (0, 50, 116, 75), (51, 58, 116, 75), (59, 66, 116, 75), (67, 72, 116, 75), (73, 79, 116, 75), (80, 93, 116, 75), (94, 100, 116, 75), (101, 105, 116, 75), (0, 50, 121, 77), (51, 58, 121, 77), (59, 66, 121, 77), (67, 72, 121, 77), (73, 79, 121, 77), (80, 93, 121, 77), (94, 100, 121, 77), (101, 105, 121, 77)] S hF htab k2 (List.forall_mem_cons.mpr ⟨Or.inl (by decide), (List.forall_mem_cons.mpr ⟨Or.inl (by decide), (List.forall_mem_cons.mpr ⟨Or.inl (by decide), (List.forall_mem_cons.mpr ⟨Or.inl (by decide), (List.forall_mem_cons.mpr ⟨Or.inl (by decide), (List.forall_mem_cons.mpr ⟨Or.inr ⟨by decide, _, cx_L_71, by decide +kernel⟩, (List.forall_mem_cons.mpr ⟨Or.inl (by decide), (List.forall_mem_cons.mpr ⟨Or.inl (by decide), (List.forall_mem_cons.mpr ⟨Or.inl (by decide), (List.forall_mem_cons.mpr ⟨Or.inl (by decide), (List.forall_mem_cons.mpr ⟨Or.inl (by decide), (List.forall_mem_cons.mpr ⟨Or.inl (by decide), (List.forall_mem_cons.mpr ⟨Or.inl (by decide), (fun _ z => absurd z List.not_mem_nil)⟩)⟩)⟩)⟩)⟩)⟩)⟩)⟩)⟩)⟩)⟩)⟩)⟩) (by decide) (by decide) cx_L_73 (by decide +kernel) e1 e2 e3 ?_
          refine lv_astore (lv' := [(5, .ref q9), (0, .ref (P.2.1 0)), (1, .int x1), (2, .int x2), (3, .int x3), (4, .int x4)]) hx hb dL_act_111 hl (by decide) rfl (fun ls hl => ?_)
          refine lv_bipush (v := (-3)) hx hb dL_act_113 (by decide) ?_
          refine W.widen (k := 2) (n := 12) (by decide) (by decide) ?_
          exact ve_i (v := (-3)) S hF hP hr hk rfl dL_act_115
        · rw [if_neg k2] at h
          by_cases k1 : u.1 = 1
          · rw [if_pos k1] at h
            obtain rfl := Option.some.inj h
            refine ve_catch (j := 1) [(0, 50, 106, 71), (51, 58, 106, 71), (59, 66, 106, 71), (67, 72, 106, 71), (73, 79, 106, 71), (80, 93, 106, 71), (94, 100, 106, 71), (101, 105, 106, 71), (0, 50, 111, 73), (51, 58, 111, 73), (59, 66, 111, 73), (67, 72, 111, 73), (73, 79, 111, 73), (80, 93, 111, 73), (94, 100, 111, 73), (101, 105, 111, 73), (0, 50, 116, 75), (51, 58, 116, 75), (59, 66, 116, 75), (67, 72, 116, 75), (73, 79, 116, 75)] (80, 93, 116, 75) [(94, 100, 116, 75), (101, 105, 116, 75), (0, 50, 121, 77), (51, 58, 121, 77), (59, 66, 121, 77), (67, 72, 121, 77), (73, 79, 121, 77), (80, 93, 121, 77), (94, 100, 121, 77), (101, 105, 121, 77)] S hF htab k1 (List.forall_mem_cons.mpr ⟨Or.inl (by decide), (List.forall_mem_cons.mpr ⟨Or.inl (by decide), (List.forall_mem_cons.mpr ⟨Or.inl (by decide), (List.forall_mem_cons.mpr ⟨Or.inl (by decide), (List.forall_mem_cons.mpr ⟨Or.inl (by decide), (List.forall_mem_cons.mpr ⟨Or.inr ⟨by decide, _, cx_L_71, by decide +kernel⟩, (List.forall_mem_cons.mpr ⟨Or.inl (by decide), (List.forall_mem_cons.mpr ⟨Or.inl (by decide), (List.forall_mem_cons.mpr ⟨Or.inl (by decide), (List.forall_mem_cons.mpr ⟨Or.inl (by decide), (List.forall_mem_cons.mpr ⟨Or.inl (by decide), (List.forall_mem_cons.mpr ⟨Or.inl (by decide), (List.forall_mem_cons.mpr ⟨Or.inl (by decide), (List.forall_mem_cons.mpr ⟨Or.inr ⟨by decide, _, cx_L_73, by decide +kernel⟩, (List.forall_mem_cons.mpr ⟨Or.inl (by decide), (List.forall_mem_cons.mpr ⟨Or.inl (by decide), (List.forall_mem_cons.mpr ⟨Or.inl (by decide), (List.forall_mem_cons.mpr ⟨Or.inl (by decide), (List.forall_mem_cons.mpr ⟨Or.inl (by decide), (List.forall_mem_cons.mpr ⟨Or.inl (by decide), (List.forall_mem_cons.mpr ⟨Or.inl (by decide), (fun _ z => absurd z List.not_mem_nil)⟩)⟩)⟩)⟩)⟩)⟩)⟩)⟩)⟩)⟩)⟩)⟩)⟩)⟩)⟩)⟩)⟩)⟩)⟩)⟩)⟩) (by decide) (by decide) cx_L_75 (by decide +kernel) e1 e2 e3 ?_
            refine lv_astore (lv' := [(5, .ref q9), (0, .ref (P.2.1 0)), (1, .int x1), (2, .int x2), (3, .int x3), (4, .int x4)]) hx hb dL_act_116 hl (by decide) rfl (fun ls hl => ?_)
            refine lv_bipush (v := (-3)) hx hb dL_act_118 (by decide) ?_
            refine W.widen (k := 2) (n := 12) (by decide) (by decide) ?_
            exact ve_i (v := (-3)) S hF hP hr hk rfl dL_act_120
          · rw [if_neg k1] at h
            by_cases k4 : u.1 = 4
            · rw [if_pos k4] at h
              obtain rfl := Option.some.inj h
              refine ve_catch (j := 4) [(0, 50, 106, 71), (51, 58, 106, 71), (59, 66, 106, 71), (67, 72, 106, 71), (73, 79, 106, 71), (80, 93, 106, 71), (94, 100, 106, 71), (101, 105, 106, 71), (0, 50, 111, 73), (51, 58, 111, 73), (59, 66, 111, 73), (67, 72, 111, 73), (73, 79, 111, 73), (80, 93, 111, 73), (94, 100, 111, 73), (101, 105, 111, 73), (0, 50, 116, 75), (51, 58, 116, 75), (59, 66, 116, 75), (67, 72, 116, 75), (73, 79, 116, 75), (80, 93, 116, 75), (94, 100, 116, 75), (101, 105, 116, 75), (0, 50, 121, 77), (51, 58, 121, 77), (59, 66, 121, 77), (67, 72, 121, 77), (73, 79, 121, 77)] (80, 93, 121, 77) [(94, 100, 121, 77), (101, 105, 121, 77)] S hF htab k4 (List.forall_mem_cons.mpr ⟨Or.inl (by decide), (List.forall_mem_cons.mpr ⟨Or.inl (by decide), (List.forall_mem_cons.mpr ⟨Or.inl (by decide), (List.forall_mem_cons.mpr ⟨Or.inl (by decide), (List.forall_mem_cons.mpr ⟨Or.inl (by decide), (List.forall_mem_cons.mpr ⟨Or.inr ⟨by decide, _, cx_L_71, by decide +kernel⟩, (List.forall_mem_cons.mpr ⟨Or.inl (by decide), (List.forall_mem_cons.mpr ⟨Or.inl (by decide), (List.forall_mem_cons.mpr ⟨Or.inl (by decide), (List.forall_mem_cons.mpr ⟨Or.inl (by decide), (List.forall_mem_cons.mpr ⟨Or.inl (by decide), (List.forall_mem_cons.mpr ⟨Or.inl (by decide), (List.forall_mem_cons.mpr ⟨Or.inl (by decide), (List.forall_mem_cons.mpr ⟨Or.inr ⟨by decide, _, cx_L_73, by decide +kernel⟩, (List.forall_mem_cons.mpr ⟨Or.inl (by decide), (List.forall_mem_cons.mpr ⟨Or.inl (by decide), (List.forall_mem_cons.mpr ⟨Or.inl (by decide), (List.forall_mem_cons.mpr ⟨Or.inl (by decide), (List.forall_mem_cons.mpr ⟨Or.inl (by decide), (List.forall_mem_cons.mpr ⟨Or.inl (by decide), (List.forall_mem_cons.mpr ⟨Or.inl (by decide), (List.forall_mem_cons.mpr ⟨Or.inr ⟨by decide, _, cx_L_75, by decide +kernel⟩, (List.forall_mem_cons.mpr ⟨Or.inl (by decide), (List.forall_mem_cons.mpr ⟨Or.inl (by decide), (List.forall_mem_cons.mpr ⟨Or.inl (by decide), (List.forall_mem_cons.mpr ⟨Or.inl (by decide), (List.forall_mem_cons.mpr ⟨Or.inl (by decide), (List.forall_mem_cons.mpr ⟨Or.inl (by decide), (List.forall_mem_cons.mpr ⟨Or.inl (by decide), (fun _ z => absurd z List.not_mem_nil)⟩)⟩)⟩)⟩)⟩)⟩)⟩)⟩)⟩)⟩)⟩)⟩)⟩)⟩)⟩)⟩)⟩)⟩)⟩)⟩)⟩)⟩)⟩)⟩)⟩)⟩)⟩)⟩)⟩) (by decide) (by decide) cx_L_77 (by decide +kernel) e1 e2 e3 ?_
              refine lv_astore (lv' := [(5, .ref q9), (0, .ref (P.2.1 0)), (1, .int x1), (2, .int x2), (3, .int x3), (4, .int x4)]) hx hb dL_act_121 hl (by decide) rfl (fun ls hl => ?_)
              refine lv_bipush (v := (-3)) hx hb dL_act_123 (by decide) ?_
              refine W.widen (k := 2) (n := 12) (by decide) (by decide) ?_
              exact ve_i (v := (-3)) S hF hP hr hk rfl dL_act_125
            · rw [if_neg k4] at h
              cases h
    · subst ho
      rw [Sum.elim_inr] at h
      dsimp only at h
      obtain rfl := Option.some.inj h
      refine lv_if_eq (tgt := 92) hx hb dL_act_85 (by decide) (fun c9 => ?_) (fun c9 => ?_)
      · rw [if_pos c9]
        refine lv_iconst (v := 0) hx hb dL_act_92 (by decide) ?_
        refine W.widen (k := 2) (n := 12) (by decide) (by decide) ?_
        exact ve_i (v := 0) S hF hP hr hk rfl dL_act_93
      · rw [if_neg c9]
        refine lv_iconst (v := 1) hx hb dL_act_88 (by decide) ?_
        refine lv_goto (tgt := 93) hx hb dL_act_89 (by decide) ?_
        refine W.widen (k := 2) (n := 12) (by decide) (by decide) ?_
        exact ve_i (v := 1) S hF hP hr hk rfl dL_act_93
  rw [if_neg w5] at h
  by_cases w6 : x1 = 6
  · rw [if_pos w6] at h
    refine lv_tableIn (off := 93) (tgt := 94) hx hb dL_act_1 (by rw [w6]; decide) (by rw [w6]; decide) (by rw [w6]; rfl) (by decide) ?_
    obtain ⟨q1, hq1, h⟩ := ob h
    refine lv_aload_n hx hb dL_act_94 rfl (lv_at hl 0 rfl) ?_
    refine lv_iload_n hx hb dL_act_95 rfl (lv_at hl 2 rfl) ?_
    refine lv_iload_n hx hb dL_act_96 rfl (lv_at hl 3 rfl) ?_
    refine vu_xi hP (vu_VX S hF hP (h := 0) (hlt _ (by decide)) rfl (by decide) rfl (c_X5_scramble l P hA hn hst w x2 x3 hq1) ok_X5_scramble ml_L_65 ⟨(Nat.le_of_ble_eq_true rfl), (Nat.le_of_ble_eq_true rfl)⟩ rfl hl.1 rfl (Nat.le_of_ble_eq_true rfl) dL_act_97 ⟨(Nat.le_of_ble_eq_true rfl), (Nat.le_of_ble_eq_true rfl)⟩) (fun H locs u ce q9 ho hP e1 e2 e3 => ?_) (fun H locs r2 u2 ho hP => ?_)
    · subst ho
      rw [Sum.elim_inl] at h
      unfold actX at h
      by_cases k3 : u.1 = 3
      · rw [if_pos k3] at h
        obtain rfl := Option.some.inj h
        refine ve_catch (j := 3) [(0, 50, 106, 71), (51, 58, 106, 71), (59, 66, 106, 71), (67, 72, 106, 71), (73, 79, 106, 71), (80, 93, 106, 71)] (94, 100, 106, 71) [(101, 105, 106, 71), (0, 50, 111, 73), (51, 58, 111, 73), (59, 66, 111, 73), (67, 72, 111, 73), (73, 79, 111, 73), (80, 93, 111, 73), (94, 100, 111, 73), (101, 105, 111, 73), (0, 50, 116, 75), (51, 58, 116, 75), (59, 66, 116, 75), (67, 72, 116, 75), (73, 79, 116, 75), (80, 93, 116, 75), (94, 100, 116, 75), (101, 105, 116, 75), (0, 50, 121, 77), (51, 58, 121, 77), (59, 66, 121, 77), (67, 72, 121, 77), (73, 79, 121, 77), (80, 93, 121, 77), (94, 100, 121, 77), (101, 105, 121, 77)] S hF htab k3 (List.forall_mem_cons.mpr ⟨Or.inl (by decide), (List.forall_mem_cons.mpr ⟨Or.inl (by decide), (List.forall_mem_cons.mpr ⟨Or.inl (by decide), (List.forall_mem_cons.mpr ⟨Or.inl (by decide), (List.forall_mem_cons.mpr ⟨Or.inl (by decide), (List.forall_mem_cons.mpr ⟨Or.inl (by decide), (fun _ z => absurd z List.not_mem_nil)⟩)⟩)⟩)⟩)⟩)⟩) (by decide) (by decide) cx_L_71 (by decide +kernel) e1 e2 e3 ?_
        refine lv_astore (lv' := [(5, .ref q9), (0, .ref (P.2.1 0)), (1, .int x1), (2, .int x2), (3, .int x3), (4, .int x4)]) hx hb dL_act_106 hl (by decide) rfl (fun ls hl => ?_)
        refine lv_bipush (v := (-2)) hx hb dL_act_108 (by decide) ?_
        refine W.widen (k := 2) (n := 12) (by decide) (by decide) ?_
        exact ve_i (v := (-2)) S hF hP hr hk rfl dL_act_110
      · rw [if_neg k3] at h
        by_cases k2 : u.1 = 2
        · rw [if_pos k2] at h
          obtain rfl := Option.some.inj h
          refine ve_catch (j := 2) [(0, 50, 106, 71), (51, 58, 106, 71), (59, 66, 106, 71), (67, 72, 106, 71), (73, 79, 106, 71), (80, 93, 106, 71), (94, 100, 106, 71), (101, 105, 106, 71), (0, 50, 111, 73), (51, 58, 111, 73), (59, 66, 111, 73), (67, 72, 111, 73), (73, 79, 111, 73), (80, 93, 111, 73)] (94, 100, 111, 73) [(101, 105, 111, 73), (0, 50, 116, 75), (51, 58, 116, 75), (59, 66, 116, 75), (67, 72, 116, 75), (73, 79, 116, 75), (80, 93, 116, 75), (94, 100, 116, 75), (101, 105, 116, 75), (0, 50, 121, 77), (51, 58, 121, 77), (59, 66, 121, 77), (67, 72, 121, 77), (73, 79, 121, 77), (80, 93, 121, 77), (94, 100, 121, 77), (101, 105, 121, 77)] S hF htab k2 (List.forall_mem_cons.mpr ⟨Or.inl (by decide), (List.forall_mem_cons.mpr ⟨Or.inl (by decide), (List.forall_mem_cons.mpr ⟨Or.inl (by decide), (List.forall_mem_cons.mpr ⟨Or.inl (by decide), (List.forall_mem_cons.mpr ⟨Or.inl (by decide), (List.forall_mem_cons.mpr ⟨Or.inl (by decide), (List.forall_mem_cons.mpr ⟨Or.inr ⟨by decide, _, cx_L_71, by decide +kernel⟩, (List.forall_mem_cons.mpr ⟨Or.inl (by decide), (List.forall_mem_cons.mpr ⟨Or.inl (by decide), (List.forall_mem_cons.mpr ⟨Or.inl (by decide), (List.forall_mem_cons.mpr ⟨Or.inl (by decide), (List.forall_mem_cons.mpr ⟨Or.inl (by decide), (List.forall_mem_cons.mpr ⟨Or.inl (by decide), (List.forall_mem_cons.mpr ⟨Or.inl (by decide), (fun _ z => absurd z List.not_mem_nil)⟩)⟩)⟩)⟩)⟩)⟩)⟩)⟩)⟩)⟩)⟩)⟩)⟩)⟩) (by decide) (by decide) cx_L_73 (by decide +kernel) e1 e2 e3 ?_
          refine lv_astore (lv' := [(5, .ref q9), (0, .ref (P.2.1 0)), (1, .int x1), (2, .int x2), (3, .int x3), (4, .int x4)]) hx hb dL_act_111 hl (by decide) rfl (fun ls hl => ?_)
          refine lv_bipush (v := (-3)) hx hb dL_act_113 (by decide) ?_
          refine W.widen (k := 2) (n := 12) (by decide) (by decide) ?_
          exact ve_i (v := (-3)) S hF hP hr hk rfl dL_act_115
        · rw [if_neg k2] at h
          by_cases k1 : u.1 = 1
          · rw [if_pos k1] at h
            obtain rfl := Option.some.inj h
            refine ve_catch (j := 1) [(0, 50, 106, 71), (51, 58, 106, 71), (59, 66, 106, 71), (67, 72, 106, 71), (73, 79, 106, 71), (80, 93, 106, 71), (94, 100, 106, 71), (101, 105, 106, 71), (0, 50, 111, 73), (51, 58, 111, 73), (59, 66, 111, 73), (67, 72, 111, 73), (73, 79, 111, 73), (80, 93, 111, 73), (94, 100, 111, 73), (101, 105, 111, 73), (0, 50, 116, 75), (51, 58, 116, 75), (59, 66, 116, 75), (67, 72, 116, 75), (73, 79, 116, 75), (80, 93, 116, 75)] (94, 100, 116, 75) [(101, 105, 116, 75), (0, 50, 121, 77), (51, 58, 121, 77), (59, 66, 121, 77), (67, 72, 121, 77), (73, 79, 121, 77), (80, 93, 121, 77), (94, 100, 121, 77), (101, 105, 121, 77)] S hF htab k1 (List.forall_mem_cons.mpr ⟨Or.inl (by decide), (List.forall_mem_cons.mpr ⟨Or.inl (by decide), (List.forall_mem_cons.mpr ⟨Or.inl (by decide), (List.forall_mem_cons.mpr ⟨Or.inl (by decide), (List.forall_mem_cons.mpr ⟨Or.inl (by decide), (List.forall_mem_cons.mpr ⟨Or.inl (by decide), (List.forall_mem_cons.mpr ⟨Or.inr ⟨by decide, _, cx_L_71, by decide +kernel⟩, (List.forall_mem_cons.mpr ⟨Or.inl (by decide), (List.forall_mem_cons.mpr ⟨Or.inl (by decide), (List.forall_mem_cons.mpr ⟨Or.inl (by decide), (List.forall_mem_cons.mpr ⟨Or.inl (by decide), (List.forall_mem_cons.mpr ⟨Or.inl (by decide), (List.forall_mem_cons.mpr ⟨Or.inl (by decide), (List.forall_mem_cons.mpr ⟨Or.inl (by decide), (List.forall_mem_cons.mpr ⟨Or.inr ⟨by decide, _, cx_L_73, by decide +kernel⟩, (List.forall_mem_cons.mpr ⟨Or.inl (by decide), (List.forall_mem_cons.mpr ⟨Or.inl (by decide), (List.forall_mem_cons.mpr ⟨Or.inl (by decide), (List.forall_mem_cons.mpr ⟨Or.inl (by decide), (List.forall_mem_cons.mpr ⟨Or.inl (by decide), (List.forall_mem_cons.mpr ⟨Or.inl (by decide), (List.forall_mem_cons.mpr ⟨Or.inl (by decide), (fun _ z => absurd z List.not_mem_nil)⟩)⟩)⟩)⟩)⟩)⟩)⟩)⟩)⟩)⟩)⟩)⟩)⟩)⟩)⟩)⟩)⟩)⟩)⟩)⟩)⟩)⟩) (by decide) (by decide) cx_L_75 (by decide +kernel) e1 e2 e3 ?_
            refine lv_astore (lv' := [(5, .ref q9), (0, .ref (P.2.1 0)), (1, .int x1), (2, .int x2), (3, .int x3), (4, .int x4)]) hx hb dL_act_116 hl (by decide) rfl (fun ls hl => ?_)
            refine lv_bipush (v := (-3)) hx hb dL_act_118 (by decide) ?_
            refine W.widen (k := 2) (n := 12) (by decide) (by decide) ?_
            exact ve_i (v := (-3)) S hF hP hr hk rfl dL_act_120
          · rw [if_neg k1] at h
            by_cases k4 : u.1 = 4
            · rw [if_pos k4] at h
              obtain rfl := Option.some.inj h
              refine ve_catch (j := 4) [(0, 50, 106, 71), (51, 58, 106, 71), (59, 66, 106, 71), (67, 72, 106, 71), (73, 79, 106, 71), (80, 93, 106, 71), (94, 100, 106, 71), (101, 105, 106, 71), (0, 50, 111, 73), (51, 58, 111, 73), (59, 66, 111, 73), (67, 72, 111, 73), (73, 79, 111, 73), (80, 93, 111, 73), (94, 100, 111, 73), (101, 105, 111, 73), (0, 50, 116, 75), (51, 58, 116, 75), (59, 66, 116, 75), (67, 72, 116, 75), (73, 79, 116, 75), (80, 93, 116, 75), (94, 100, 116, 75), (101, 105, 116, 75), (0, 50, 121, 77), (51, 58, 121, 77), (59, 66, 121, 77), (67, 72, 121, 77), (73, 79, 121, 77), (80, 93, 121, 77)] (94, 100, 121, 77) [(101, 105, 121, 77)] S hF htab k4 (List.forall_mem_cons.mpr ⟨Or.inl (by decide), (List.forall_mem_cons.mpr ⟨Or.inl (by decide), (List.forall_mem_cons.mpr ⟨Or.inl (by decide), (List.forall_mem_cons.mpr ⟨Or.inl (by decide), (List.forall_mem_cons.mpr ⟨Or.inl (by decide), (List.forall_mem_cons.mpr ⟨Or.inl (by decide), (List.forall_mem_cons.mpr ⟨Or.inr ⟨by decide, _, cx_L_71, by decide +kernel⟩, (List.forall_mem_cons.mpr ⟨Or.inl (by decide), (List.forall_mem_cons.mpr ⟨Or.inl (by decide), (List.forall_mem_cons.mpr ⟨Or.inl (by decide), (List.forall_mem_cons.mpr ⟨Or.inl (by decide), (List.forall_mem_cons.mpr ⟨Or.inl (by decide), (List.forall_mem_cons.mpr ⟨Or.inl (by decide), (List.forall_mem_cons.mpr ⟨Or.inl (by decide), (List.forall_mem_cons.mpr ⟨Or.inr ⟨by decide, _, cx_L_73, by decide +kernel⟩, (List.forall_mem_cons.mpr ⟨Or.inl (by decide), (List.forall_mem_cons.mpr ⟨Or.inl (by decide), (List.forall_mem_cons.mpr ⟨Or.inl (by decide), (List.forall_mem_cons.mpr ⟨Or.inl (by decide), (List.forall_mem_cons.mpr ⟨Or.inl (by decide), (List.forall_mem_cons.mpr ⟨Or.inl (by decide), (List.forall_mem_cons.mpr ⟨Or.inl (by decide), (List.forall_mem_cons.mpr ⟨Or.inr ⟨by decide, _, cx_L_75, by decide +kernel⟩, (List.forall_mem_cons.mpr ⟨Or.inl (by decide), (List.forall_mem_cons.mpr ⟨Or.inl (by decide), (List.forall_mem_cons.mpr ⟨Or.inl (by decide), (List.forall_mem_cons.mpr ⟨Or.inl (by decide), (List.forall_mem_cons.mpr ⟨Or.inl (by decide), (List.forall_mem_cons.mpr ⟨Or.inl (by decide), (List.forall_mem_cons.mpr ⟨Or.inl (by decide), (fun _ z => absurd z List.not_mem_nil)⟩)⟩)⟩)⟩)⟩)⟩)⟩)⟩)⟩)⟩)⟩)⟩)⟩)⟩)⟩)⟩)⟩)⟩)⟩)⟩)⟩)⟩)⟩)⟩)⟩)⟩)⟩)⟩)⟩)⟩) (by decide) (by decide) cx_L_77 (by decide +kernel) e1 e2 e3 ?_
              refine lv_astore (lv' := [(5, .ref q9), (0, .ref (P.2.1 0)), (1, .int x1), (2, .int x2), (3, .int x3), (4, .int x4)]) hx hb dL_act_121 hl (by decide) rfl (fun ls hl => ?_)
              refine lv_bipush (v := (-3)) hx hb dL_act_123 (by decide) ?_
              refine W.widen (k := 2) (n := 12) (by decide) (by decide) ?_
              exact ve_i (v := (-3)) S hF hP hr hk rfl dL_act_125
            · rw [if_neg k4] at h
              cases h
    · subst ho
      rw [Sum.elim_inr] at h
      obtain rfl := Option.some.inj h
      refine W.widen (k := 2) (n := 12) (by decide) (by decide) ?_
      exact ve_i (v := r2) S hF hP hr hk rfl dL_act_100
  rw [if_neg w6] at h
  refine lv_tableOut (tgt := 101) hx hb dL_act_1 (sw_out (fun i i1 i2 => ?_)) (by decide) ?_
  · have i3 : i = 0 ∨ i = 1 ∨ i = 2 ∨ i = 3 ∨ i = 4 ∨ i = 5 ∨ i = 6 := by omega
    rcases i3 with rfl | rfl | rfl | rfl | rfl | rfl | rfl
    · exact w0
    · exact w1
    · exact w2
    · exact w3
    · exact w4
    · exact w5
    · exact w6
  obtain ⟨q1, hq1, h⟩ := ob h
  refine lv_aload_n hx hb dL_act_101 rfl (lv_at hl 0 rfl) ?_
  refine vu_xi hP (vu_VX S hF hP (h := 0) (hlt _ (by decide)) rfl (by decide) rfl (c_X5_step l P hA hn hst w hq1) ok_X5_step ml_L_68 ⟨(Nat.le_of_ble_eq_true rfl), (Nat.le_of_ble_eq_true rfl)⟩ rfl hl.1 rfl (Nat.le_of_ble_eq_true rfl) dL_act_102 ⟨(Nat.le_of_ble_eq_true rfl), (Nat.le_of_ble_eq_true rfl)⟩) (fun H locs u ce q9 ho hP e1 e2 e3 => ?_) (fun H locs r2 u2 ho hP => ?_)
  · subst ho
    rw [Sum.elim_inl] at h
    unfold actX at h
    by_cases k3 : u.1 = 3
    · rw [if_pos k3] at h
      obtain rfl := Option.some.inj h
      refine ve_catch (j := 3) [(0, 50, 106, 71), (51, 58, 106, 71), (59, 66, 106, 71), (67, 72, 106, 71), (73, 79, 106, 71), (80, 93, 106, 71), (94, 100, 106, 71)] (101, 105, 106, 71) [(0, 50, 111, 73), (51, 58, 111, 73), (59, 66, 111, 73), (67, 72, 111, 73), (73, 79, 111, 73), (80, 93, 111, 73), (94, 100, 111, 73), (101, 105, 111, 73), (0, 50, 116, 75), (51, 58, 116, 75), (59, 66, 116, 75), (67, 72, 116, 75), (73, 79, 116, 75), (80, 93, 116, 75), (94, 100, 116, 75), (101, 105, 116, 75), (0, 50, 121, 77), (51, 58, 121, 77), (59, 66, 121, 77), (67, 72, 121, 77), (73, 79, 121, 77), (80, 93, 121, 77), (94, 100, 121, 77), (101, 105, 121, 77)] S hF htab k3 (List.forall_mem_cons.mpr ⟨Or.inl (by decide), (List.forall_mem_cons.mpr ⟨Or.inl (by decide), (List.forall_mem_cons.mpr ⟨Or.inl (by decide), (List.forall_mem_cons.mpr ⟨Or.inl (by decide), (List.forall_mem_cons.mpr ⟨Or.inl (by decide), (List.forall_mem_cons.mpr ⟨Or.inl (by decide), (List.forall_mem_cons.mpr ⟨Or.inl (by decide), (fun _ z => absurd z List.not_mem_nil)⟩)⟩)⟩)⟩)⟩)⟩)⟩) (by decide) (by decide) cx_L_71 (by decide +kernel) e1 e2 e3 ?_
      refine lv_astore (lv' := [(5, .ref q9), (0, .ref (P.2.1 0)), (1, .int x1), (2, .int x2), (3, .int x3), (4, .int x4)]) hx hb dL_act_106 hl (by decide) rfl (fun ls hl => ?_)
      refine lv_bipush (v := (-2)) hx hb dL_act_108 (by decide) ?_
      exact ve_i (v := (-2)) S hF hP hr hk rfl dL_act_110
    · rw [if_neg k3] at h
      by_cases k2 : u.1 = 2
      · rw [if_pos k2] at h
        obtain rfl := Option.some.inj h
        refine ve_catch (j := 2) [(0, 50, 106, 71), (51, 58, 106, 71), (59, 66, 106, 71), (67, 72, 106, 71), (73, 79, 106, 71), (80, 93, 106, 71), (94, 100, 106, 71), (101, 105, 106, 71), (0, 50, 111, 73), (51, 58, 111, 73), (59, 66, 111, 73), (67, 72, 111, 73), (73, 79, 111, 73), (80, 93, 111, 73), (94, 100, 111, 73)] (101, 105, 111, 73) [(0, 50, 116, 75), (51, 58, 116, 75), (59, 66, 116, 75), (67, 72, 116, 75), (73, 79, 116, 75), (80, 93, 116, 75), (94, 100, 116, 75), (101, 105, 116, 75), (0, 50, 121, 77), (51, 58, 121, 77), (59, 66, 121, 77), (67, 72, 121, 77), (73, 79, 121, 77), (80, 93, 121, 77), (94, 100, 121, 77), (101, 105, 121, 77)] S hF htab k2 (List.forall_mem_cons.mpr ⟨Or.inl (by decide), (List.forall_mem_cons.mpr ⟨Or.inl (by decide), (List.forall_mem_cons.mpr ⟨Or.inl (by decide), (List.forall_mem_cons.mpr ⟨Or.inl (by decide), (List.forall_mem_cons.mpr ⟨Or.inl (by decide), (List.forall_mem_cons.mpr ⟨Or.inl (by decide), (List.forall_mem_cons.mpr ⟨Or.inl (by decide), (List.forall_mem_cons.mpr ⟨Or.inr ⟨by decide, _, cx_L_71, by decide +kernel⟩, (List.forall_mem_cons.mpr ⟨Or.inl (by decide), (List.forall_mem_cons.mpr ⟨Or.inl (by decide), (List.forall_mem_cons.mpr ⟨Or.inl (by decide), (List.forall_mem_cons.mpr ⟨Or.inl (by decide), (List.forall_mem_cons.mpr ⟨Or.inl (by decide), (List.forall_mem_cons.mpr ⟨Or.inl (by decide), (List.forall_mem_cons.mpr ⟨Or.inl (by decide), (fun _ z => absurd z List.not_mem_nil)⟩)⟩)⟩)⟩)⟩)⟩)⟩)⟩)⟩)⟩)⟩)⟩)⟩)⟩)⟩) (by decide) (by decide) cx_L_73 (by decide +kernel) e1 e2 e3 ?_
        refine lv_astore (lv' := [(5, .ref q9), (0, .ref (P.2.1 0)), (1, .int x1), (2, .int x2), (3, .int x3), (4, .int x4)]) hx hb dL_act_111 hl (by decide) rfl (fun ls hl => ?_)
        refine lv_bipush (v := (-3)) hx hb dL_act_113 (by decide) ?_
        exact ve_i (v := (-3)) S hF hP hr hk rfl dL_act_115
      · rw [if_neg k2] at h
        by_cases k1 : u.1 = 1
        · rw [if_pos k1] at h
          obtain rfl := Option.some.inj h
          refine ve_catch (j := 1) [(0, 50, 106, 71), (51, 58, 106, 71), (59, 66, 106, 71), (67, 72, 106, 71), (73, 79, 106, 71), (80, 93, 106, 71), (94, 100, 106, 71), (101, 105, 106, 71), (0, 50, 111, 73), (51, 58, 111, 73), (59, 66, 111, 73), (67, 72, 111, 73), (73, 79, 111, 73), (80, 93, 111, 73), (94, 100, 111, 73), (101, 105, 111, 73), (0, 50, 116, 75), (51, 58, 116, 75), (59, 66, 116, 75), (67, 72, 116, 75), (73, 79, 116, 75), (80, 93, 116, 75), (94, 100, 116, 75)] (101, 105, 116, 75) [(0, 50, 121, 77), (51, 58, 121, 77), (59, 66, 121, 77), (67, 72, 121, 77), (73, 79, 121, 77), (80, 93, 121, 77), (94, 100, 121, 77), (101, 105, 121, 77)] S hF htab k1 (List.forall_mem_cons.mpr ⟨Or.inl (by decide), (List.forall_mem_cons.mpr ⟨Or.inl (by decide), (List.forall_mem_cons.mpr ⟨Or.inl (by decide), (List.forall_mem_cons.mpr ⟨Or.inl (by decide), (List.forall_mem_cons.mpr ⟨Or.inl (by decide), (List.forall_mem_cons.mpr ⟨Or.inl (by decide), (List.forall_mem_cons.mpr ⟨Or.inl (by decide), (List.forall_mem_cons.mpr ⟨Or.inr ⟨by decide, _, cx_L_71, by decide +kernel⟩, (List.forall_mem_cons.mpr ⟨Or.inl (by decide), (List.forall_mem_cons.mpr ⟨Or.inl (by decide), (List.forall_mem_cons.mpr ⟨Or.inl (by decide), (List.forall_mem_cons.mpr ⟨Or.inl (by decide), (List.forall_mem_cons.mpr ⟨Or.inl (by decide), (List.forall_mem_cons.mpr ⟨Or.inl (by decide), (List.forall_mem_cons.mpr ⟨Or.inl (by decide), (List.forall_mem_cons.mpr ⟨Or.inr ⟨by decide, _, cx_L_73, by decide +kernel⟩, (List.forall_mem_cons.mpr ⟨Or.inl (by decide), (List.forall_mem_cons.mpr ⟨Or.inl (by decide), (List.forall_mem_cons.mpr ⟨Or.inl (by decide), (List.forall_mem_cons.mpr ⟨Or.inl (by decide), (List.forall_mem_cons.mpr ⟨Or.inl (by decide), (List.forall_mem_cons.mpr ⟨Or.inl (by decide), (List.forall_mem_cons.mpr ⟨Or.inl (by decide), (fun _ z => absurd z List.not_mem_nil)⟩)⟩)⟩)⟩)⟩)⟩)⟩)⟩)⟩)⟩)⟩)⟩)⟩)⟩)⟩)⟩)⟩)⟩)⟩)⟩)⟩)⟩)⟩) (by decide) (by decide) cx_L_75 (by decide +kernel) e1 e2 e3 ?_
          refine lv_astore (lv' := [(5, .ref q9), (0, .ref (P.2.1 0)), (1, .int x1), (2, .int x2), (3, .int x3), (4, .int x4)]) hx hb dL_act_116 hl (by decide) rfl (fun ls hl => ?_)
          refine lv_bipush (v := (-3)) hx hb dL_act_118 (by decide) ?_
          exact ve_i (v := (-3)) S hF hP hr hk rfl dL_act_120
        · rw [if_neg k1] at h
          by_cases k4 : u.1 = 4
          · rw [if_pos k4] at h
            obtain rfl := Option.some.inj h
            refine ve_catch (j := 4) [(0, 50, 106, 71), (51, 58, 106, 71), (59, 66, 106, 71), (67, 72, 106, 71), (73, 79, 106, 71), (80, 93, 106, 71), (94, 100, 106, 71), (101, 105, 106, 71), (0, 50, 111, 73), (51, 58, 111, 73), (59, 66, 111, 73), (67, 72, 111, 73), (73, 79, 111, 73), (80, 93, 111, 73), (94, 100, 111, 73), (101, 105, 111, 73), (0, 50, 116, 75), (51, 58, 116, 75), (59, 66, 116, 75), (67, 72, 116, 75), (73, 79, 116, 75), (80, 93, 116, 75), (94, 100, 116, 75), (101, 105, 116, 75), (0, 50, 121, 77), (51, 58, 121, 77), (59, 66, 121, 77), (67, 72, 121, 77), (73, 79, 121, 77), (80, 93, 121, 77), (94, 100, 121, 77)] (101, 105, 121, 77) [] S hF htab k4 (List.forall_mem_cons.mpr ⟨Or.inl (by decide), (List.forall_mem_cons.mpr ⟨Or.inl (by decide), (List.forall_mem_cons.mpr ⟨Or.inl (by decide), (List.forall_mem_cons.mpr ⟨Or.inl (by decide), (List.forall_mem_cons.mpr ⟨Or.inl (by decide), (List.forall_mem_cons.mpr ⟨Or.inl (by decide), (List.forall_mem_cons.mpr ⟨Or.inl (by decide), (List.forall_mem_cons.mpr ⟨Or.inr ⟨by decide, _, cx_L_71, by decide +kernel⟩, (List.forall_mem_cons.mpr ⟨Or.inl (by decide), (List.forall_mem_cons.mpr ⟨Or.inl (by decide), (List.forall_mem_cons.mpr ⟨Or.inl (by decide), (List.forall_mem_cons.mpr ⟨Or.inl (by decide), (List.forall_mem_cons.mpr ⟨Or.inl (by decide), (List.forall_mem_cons.mpr ⟨Or.inl (by decide), (List.forall_mem_cons.mpr ⟨Or.inl (by decide), (List.forall_mem_cons.mpr ⟨Or.inr ⟨by decide, _, cx_L_73, by decide +kernel⟩, (List.forall_mem_cons.mpr ⟨Or.inl (by decide), (List.forall_mem_cons.mpr ⟨Or.inl (by decide), (List.forall_mem_cons.mpr ⟨Or.inl (by decide), (List.forall_mem_cons.mpr ⟨Or.inl (by decide), (List.forall_mem_cons.mpr ⟨Or.inl (by decide), (List.forall_mem_cons.mpr ⟨Or.inl (by decide), (List.forall_mem_cons.mpr ⟨Or.inl (by decide), (List.forall_mem_cons.mpr ⟨Or.inr ⟨by decide, _, cx_L_75, by decide +kernel⟩, (List.forall_mem_cons.mpr ⟨Or.inl (by decide), (List.forall_mem_cons.mpr ⟨Or.inl (by decide), (List.forall_mem_cons.mpr ⟨Or.inl (by decide), (List.forall_mem_cons.mpr ⟨Or.inl (by decide), (List.forall_mem_cons.mpr ⟨Or.inl (by decide), (List.forall_mem_cons.mpr ⟨Or.inl (by decide), (List.forall_mem_cons.mpr ⟨Or.inl (by decide), (fun _ z => absurd z List.not_mem_nil)⟩)⟩)⟩)⟩)⟩)⟩)⟩)⟩)⟩)⟩)⟩)⟩)⟩)⟩)⟩)⟩)⟩)⟩)⟩)⟩)⟩)⟩)⟩)⟩)⟩)⟩)⟩)⟩)⟩)⟩)⟩) (by decide) (by decide) cx_L_77 (by decide +kernel) e1 e2 e3 ?_
            refine lv_astore (lv' := [(5, .ref q9), (0, .ref (P.2.1 0)), (1, .int x1), (2, .int x2), (3, .int x3), (4, .int x4)]) hx hb dL_act_121 hl (by decide) rfl (fun ls hl => ?_)
            refine lv_bipush (v := (-3)) hx hb dL_act_123 (by decide) ?_
            exact ve_i (v := (-3)) S hF hP hr hk rfl dL_act_125
          · rw [if_neg k4] at h
            cases h
  · subst ho
    rw [Sum.elim_inr] at h
    obtain rfl := Option.some.inj h
    exact ve_i (v := r2) S hF hP hr hk rfl dL_act_105
set_option maxRecDepth 100000 in
set_option maxHeartbeats 4000000 in
theorem c_L_runs (l : Launch) (P : Pl) (hA : Adr P) (hn : 26 ≤ P.2.2.2.1) (hst : l.stackTraces = false) (w : Wo) {r : Int32 × Wo} (h : F_L_runs w = some r) : CtW l P yL_runs cL_runs 2 [(0, 4, 5, 73), (0, 4, 8, 71)] 8 1 [.ref (P.2.1 0)] w r.1 r.2 := by
  have hlt : ∀ h, h < 26 → h < P.2.2.2.1 := fun h q => Nat.lt_of_lt_of_le q hn
  refine vs_w hA (by decide +kernel) (Nat.le_of_ble_eq_true rfl) (fun p e s m args below meth c ls S hF hP hl hr hk htab => ?_)
  have hx := S.1
  have hb := S.2.1
  replace hl : lv_has ls 2 [(0, .ref (P.2.1 0))] := hl
  unfold F_L_runs at h
  obtain ⟨q1, hq1, h⟩ := ob h
  refine lv_aload_n hx hb dL_runs_0 rfl (lv_at hl 0 rfl) ?_
  refine vu_xi hP (vu_VX S hF hP (h := 0) (hlt _ (by decide)) rfl (by decide) rfl (c_X5_run l P hA hn hst w hq1) ok_X5_run ml_L_162 ⟨(Nat.le_of_ble_eq_true rfl), (Nat.le_of_ble_eq_true rfl)⟩ rfl hl.1 rfl (Nat.le_of_ble_eq_true rfl) dL_runs_1 ⟨(Nat.le_of_ble_eq_true rfl), (Nat.le_of_ble_eq_true rfl)⟩) (fun H locs u ce q9 ho hP e1 e2 e3 => ?_) (fun H locs r2 u2 ho hP => ?_)
  · subst ho
    rw [Sum.elim_inl] at h
    unfold runX at h
    by_cases k2 : u.1 = 2
    · rw [if_pos k2] at h
      obtain rfl := Option.some.inj h
      refine ve_catch (j := 2) [] (0, 4, 5, 73) [(0, 4, 8, 71)] S hF htab k2 (fun _ z => absurd z List.not_mem_nil) (by decide) (by decide) cx_L_73 (by decide +kernel) e1 e2 e3 ?_
      refine lv_astore_n (lv' := [(1, .ref q9), (0, .ref (P.2.1 0))]) hx hb dL_runs_5 rfl hl (by decide) rfl (fun ls hl => ?_)
      refine lv_iconst (v := (-1)) hx hb dL_runs_6 (by decide) ?_
      exact ve_i (v := (-1)) S hF hP hr hk rfl dL_runs_7
    · rw [if_neg k2] at h
      by_cases k3 : u.1 = 3
      · rw [if_pos k3] at h
        obtain rfl := Option.some.inj h
        refine ve_catch (j := 3) [(0, 4, 5, 73)] (0, 4, 8, 71) [] S hF htab k3 (List.forall_mem_cons.mpr ⟨Or.inr ⟨by decide, _, cx_L_73, by decide +kernel⟩, (fun _ z => absurd z List.not_mem_nil)⟩) (by decide) (by decide) cx_L_71 (by decide +kernel) e1 e2 e3 ?_
        refine lv_astore_n (lv' := [(1, .ref q9), (0, .ref (P.2.1 0))]) hx hb dL_runs_8 rfl hl (by decide) rfl (fun ls hl => ?_)
        refine lv_bipush (v := (-2)) hx hb dL_runs_9 (by decide) ?_
        exact ve_i (v := (-2)) S hF hP hr hk rfl dL_runs_11
      · rw [if_neg k3] at h
        cases h
  · subst ho
    rw [Sum.elim_inr] at h
    obtain rfl := Option.some.inj h
    exact ve_i (v := r2) S hF hP hr hk rfl dL_runs_4
set_option maxRecDepth 100000 in
set_option maxHeartbeats 4000000 in
theorem c_L_at (l : Launch) {b L k : Nat} {xs : Nat → Int32} (hL : L < 2 ^ 31) (hk : k < 2 ^ 31) : CtT l yL_at cL_at 2 (some .int) 0 [.ref b, .int (nI k)] (fun U => va_X b L xs U U.heap ∧ b < U.heap.size) (if k < L then xs k else 0) := by
  refine tm_met (by decide +kernel) (Nat.le_of_ble_eq_true rfl) (fun p e s m args below meth c ls S hB hl hr hlk hnm => ?_)
  have hx := S.1
  have hb := S.2.1
  replace hl : lv_has ls 2 [(0, .ref b), (1, .int (nI k))] := hl
  obtain ⟨hX, hbl⟩ := hB
  have hS : va_S NoA s.heap s.heap [] := va_S.rf
  refine lv_iload_n hx hb dL_at_0 rfl (lv_at hl 1 rfl) ?_
  refine lv_aload_n hx hb dL_at_1 rfl (lv_at hl 0 rfl) ?_
  refine va_slen hx hb hX hbl id hS dL_at_2 ?_
  by_cases hkL : k < L
  · rw [if_pos hkL]
    refine lv_icmp_ge (tgt := 12) hx hb dL_at_3 (by decide) (fun c9 => absurd c9 (nI_ge hkL (by omega))) (fun _ => ?_)
    refine lv_aload_n hx hb dL_at_6 rfl (lv_at hl 0 rfl) ?_
    refine lv_iload_n hx hb dL_at_7 rfl (lv_at hl 1 rfl) ?_
    refine va_sld hx hb hX hbl id hS (vp_in_nI hkL hL) dL_at_8 ?_
    rw [nI_clamp (by omega)]
    refine lv_goto (tgt := 13) hx hb dL_at_9 (by decide) ?_
    exact te_i S hS hr hlk rfl dL_at_13
  · rw [if_neg hkL]
    refine lv_icmp_ge (tgt := 12) hx hb dL_at_3 (by decide) (fun _ => ?_) (fun c9 => absurd (nI_le (by omega) (by omega)) c9)
    refine lv_iconst (v := 0) hx hb dL_at_12 (by decide) ?_
    exact te_i S hS hr hlk rfl dL_at_13
set_option maxRecDepth 100000 in
set_option maxHeartbeats 4000000 in
theorem c_L_put (l : Launch) (P : Pl) (hA : Adr P) (hn : 26 ≤ P.2.2.2.1) {a v : Nat} {cs : List Nat} (ha : ascii cs) (w : Wo) {w1 : Wo} (h : puts w cs = some w1) : Met l yL_put (wsU yL_put cL_put 3 none) (rmU 8 0 0) (va_Pc [.ref (P.2.1 0), .ref a] (WpT P w a v cs)) (va_Qv (fun (u : Wo) => u = w1) (Wq P) (Ab P.2.2.2.2.1)) 0 0 (Ab P.2.2.2.2.1) := by
  have hlt : ∀ h, h < 26 → h < P.2.2.2.1 := fun h q => Nat.lt_of_lt_of_le q hn
  refine tm_met (by decide +kernel) (Nat.le_of_ble_eq_true rfl) (fun p e s m args below meth c ls S hB hl hr hk hnm => ?_)
  have hx := S.1
  have hb := S.2.1
  replace hl : lv_has ls 3 [(0, .ref (P.2.1 0)), (1, .ref a)] := hl
  obtain ⟨hW, hX, hT⟩ := hB
  obtain ⟨hF, hP⟩ := hW.fx hA
  have hlen := ha.2
  have loop : ∀ (d i : Nat) (w : Wo) (H : Heap) (locs : List Loc) (ls : Array Slot), i + d = cs.length → puts w (cs.drop i) = some w1 → St P s w H locs → lv_has ls 3 [(2, .int (nI i)), (0, .ref (P.2.1 0)), (1, .ref a)] → W p l e (rmU 8 0 0) s m args below meth c H locs 0 0 (MQ below (va_Qv (fun (u : Wo) => u = w1) (Wq P) (Ab P.2.2.2.2.1)) args s 0 0 (Ab P.2.2.2.2.1)) (F0 m 2 ls []) := by
    intro d
    induction d with
    | zero =>
      intro i w H locs ls hi h hP hl
      rw [show cs.drop i = [] from List.drop_eq_nil_iff.mpr (by omega)] at h
      obtain rfl := Option.some.inj h
      refine lv_iload_n hx hb dL_put_2 rfl (lv_at hl 0 rfl) ?_
      refine lv_aload_n hx hb dL_put_3 rfl (lv_at hl 2 rfl) ?_
      refine tt_i hP.2 (tt_V S (C := "java/lang/String") (hT.recv hP.2) (TxB.at hX hT hP.2) TxB.bl (c_J0_length l (v := v) ha) ⟨to_J0_length_8abf5.1, to_J0_length_8abf5.2.2.1, to_J0_length_8abf5.2.2.2.1, to_J0_length_8abf5.2.2.2.2.1, to_J0_length_8abf5.2.2.2.2.2.1, to_J0_length_8abf5.2.2.2.2.2.2⟩ (S.2.2.2.2 _ (List.mem_cons_of_mem _ to_J0_length_8abf5.2.1)) tl_L_7 ⟨(Nat.le_of_ble_eq_true rfl), (Nat.le_of_ble_eq_true rfl)⟩ rfl hl.1 rfl (Nat.le_of_ble_eq_true rfl) dL_put_4 ⟨(Nat.le_of_ble_eq_true rfl), (Nat.le_of_ble_eq_true rfl)⟩) (fun H1 locs1 ho hz hk9 hS => ?_)
      replace hP : St P s w H1 locs1 := ⟨hP.1.kept (fun i q hq => hk9 _ (hP.1 i q hq).lt), hS⟩
      refine lv_icmp_ge (tgt := 26) hx hb dL_put_7 (by decide) (fun _ => ?_) (fun c9 => absurd (nI_le (by omega) (by omega)) c9)
      exact ve_v S hF hP hr hk dL_put_26
    | succ d ih =>
      intro i w H locs ls hi h hP hl
      have hil : i < cs.length := by omega
      rw [drop_at hil] at h
      obtain ⟨q1, hq1, h⟩ := ob h
      cases q1 with
      | inl u => cases h
      | inr v9 =>
        rw [Sum.elim_inr] at h
        refine lv_iload_n hx hb dL_put_2 rfl (lv_at hl 0 rfl) ?_
        refine lv_aload_n hx hb dL_put_3 rfl (lv_at hl 2 rfl) ?_
        refine tt_i hP.2 (tt_V S (C := "java/lang/String") (hT.recv hP.2) (TxB.at hX hT hP.2) TxB.bl (c_J0_length l (v := v) ha) ⟨to_J0_length_8abf5.1, to_J0_length_8abf5.2.2.1, to_J0_length_8abf5.2.2.2.1, to_J0_length_8abf5.2.2.2.2.1, to_J0_length_8abf5.2.2.2.2.2.1, to_J0_length_8abf5.2.2.2.2.2.2⟩ (S.2.2.2.2 _ (List.mem_cons_of_mem _ to_J0_length_8abf5.2.1)) tl_L_7 ⟨(Nat.le_of_ble_eq_true rfl), (Nat.le_of_ble_eq_true rfl)⟩ rfl hl.1 rfl (Nat.le_of_ble_eq_true rfl) dL_put_4 ⟨(Nat.le_of_ble_eq_true rfl), (Nat.le_of_ble_eq_true rfl)⟩) (fun H1 locs1 ho hz hk9 hS => ?_)
        replace hP : St P s w H1 locs1 := ⟨hP.1.kept (fun i q hq => hk9 _ (hP.1 i q hq).lt), hS⟩
        refine lv_icmp_ge (tgt := 26) hx hb dL_put_7 (by decide) (fun c9 => absurd c9 (nI_ge hil (by omega))) (fun _ => ?_)
        refine lv_aload_n hx hb dL_put_10 rfl (lv_at hl 1 rfl) ?_
        refine lv_aload_n hx hb dL_put_11 rfl (lv_at hl 2 rfl) ?_
        refine lv_iload_n hx hb dL_put_12 rfl (lv_at hl 0 rfl) ?_
        refine tt_i hP.2 (tt_V S (C := "java/lang/String") (hT.recv hP.2) (TxB.at hX hT hP.2) TxB.bl (c_J0_charAt l (v := v) ha hil) ⟨to_J0_charAt_5068e.1, to_J0_charAt_5068e.2.2.1, to_J0_charAt_5068e.2.2.2.1, to_J0_charAt_5068e.2.2.2.2.1, to_J0_charAt_5068e.2.2.2.2.2.1, to_J0_charAt_5068e.2.2.2.2.2.2⟩ (S.2.2.2.2 _ (List.mem_cons_of_mem _ to_J0_charAt_5068e.2.1)) tl_L_13 ⟨(Nat.le_of_ble_eq_true rfl), (Nat.le_of_ble_eq_true rfl)⟩ rfl hl.1 rfl (Nat.le_of_ble_eq_true rfl) dL_put_13 ⟨(Nat.le_of_ble_eq_true rfl), (Nat.le_of_ble_eq_true rfl)⟩) (fun H2 locs2 ho hz hk9 hS => ?_)
        replace hP : St P s w H2 locs2 := ⟨hP.1.kept (fun i q hq => hk9 _ (hP.1 i q hq).lt), hS⟩
        refine vu_i hP (vu_V S hF hP (h := 0) (hlt _ (by decide)) rfl (by decide) rfl (n_X5_append l P hA hn w (nI (cs.getD i 0)) hq1) ok_X5_append ml_L_17 ⟨(Nat.le_of_ble_eq_true rfl), (Nat.le_of_ble_eq_true rfl)⟩ rfl hl.1 rfl (Nat.le_of_ble_eq_true rfl) dL_put_16 ⟨(Nat.le_of_ble_eq_true rfl), (Nat.le_of_ble_eq_true rfl)⟩) (fun H locs _ hP => ?_)
        refine lv_pop hx hb dL_put_19 rfl ?_
        refine lv_iinc (v := nI (i + 1)) (lv' := [(2, .int (nI (i + 1))), (0, .ref (P.2.1 0)), (1, .ref a)]) hx hb dL_put_20 hl (k := 0) rfl (show nI i + 1 = nI (i + 1) from nI_add i 1) (by decide) rfl (fun ls hl => ?_)
        refine lv_goto (tgt := 2) hx hb dL_put_23 (by decide) ?_
        exact ih (i + 1) v9.2 H locs ls (by omega) h hP hl
  refine lv_iconst (v := 0) hx hb dL_put_0 (by decide) ?_
  refine lv_istore_n (lv' := [(2, .int 0), (0, .ref (P.2.1 0)), (1, .ref a)]) hx hb dL_put_1 rfl hl (by decide) rfl (fun ls hl => ?_)
  exact loop cs.length 0 w s.heap [] ls (by omega) (by rw [List.drop_zero]; exact h) hP hl
set_option maxRecDepth 100000 in
set_option maxHeartbeats 4000000 in
theorem c_L_isLine (l : Launch) (P : Pl) (hA : Adr P) (hn : 26 ≤ P.2.2.2.1) {a v : Nat} {cs : List Nat} (ha : ascii cs) (w : Wo) (x1 : Int32) {r9 : Int32 × Wo} (h : F_L_isLine w x1 cs = some r9) : Met l yL_isLine (wsU yL_isLine cL_isLine 4 (some .boolean)) (rmU 8 0 0) (va_Pc [.ref (P.2.1 0), .int x1, .ref a] (WpT P w a v cs)) (va_Qi (fun (r : Int32) (u : Wo) => r = r9.1 ∧ u = r9.2 ∧ okR (some .boolean) r9.1) (Wq P) (Ab P.2.2.2.2.1)) 0 0 (Ab P.2.2.2.2.1) := by
  have hlt : ∀ h, h < 26 → h < P.2.2.2.1 := fun h q => Nat.lt_of_lt_of_le q hn
  refine tm_met (by decide +kernel) (Nat.le_of_ble_eq_true rfl) (fun p e s m args below meth c ls S hB hl hr hk hnm => ?_)
  have hx := S.1
  have hb := S.2.1
  replace hl : lv_has ls 4 [(0, .ref (P.2.1 0)), (1, .int x1), (2, .ref a)] := hl
  obtain ⟨hW, hX, hT⟩ := hB
  obtain ⟨hF, hP⟩ := hW.fx hA
  have hlen := ha.2
  unfold F_L_isLine at h
  refine lv_iload_n hx hb dL_isLine_0 rfl (lv_at hl 1 rfl) ?_
  refine lv_aload_n hx hb dL_isLine_1 rfl (lv_at hl 2 rfl) ?_
  refine tt_i hP.2 (tt_V S (C := "java/lang/String") (hT.recv hP.2) (TxB.at hX hT hP.2) TxB.bl (c_J0_length l (v := v) ha) ⟨to_J0_length_8abf5.1, to_J0_length_8abf5.2.2.1, to_J0_length_8abf5.2.2.2.1, to_J0_length_8abf5.2.2.2.2.1, to_J0_length_8abf5.2.2.2.2.2.1, to_J0_length_8abf5.2.2.2.2.2.2⟩ (S.2.2.2.2 _ (List.mem_cons_of_mem _ to_J0_length_8abf5.2.1)) tl_L_7 ⟨(Nat.le_of_ble_eq_true rfl), (Nat.le_of_ble_eq_true rfl)⟩ rfl hl.1 rfl (Nat.le_of_ble_eq_true rfl) dL_isLine_2 ⟨(Nat.le_of_ble_eq_true rfl), (Nat.le_of_ble_eq_true rfl)⟩) (fun H1 locs1 ho hz hk9 hS => ?_)
  replace hP : St P s w H1 locs1 := ⟨hP.1.kept (fun i q hq => hk9 _ (hP.1 i q hq).lt), hS⟩
  refine lv_icmp_eq (tgt := 10) hx hb dL_isLine_5 (by decide) (fun c9 => ?_) (fun c9 => ?_)
  · rw [if_pos c9] at h
    subst c9
    have loop : ∀ (d i : Nat) (w : Wo) (H : Heap) (locs : List Loc) (ls : Array Slot), i + d = cs.length → isL w i (cs.drop i) = some r9 → St P s w H locs → lv_has ls 4 [(3, .int (nI i)), (0, .ref (P.2.1 0)), (1, .int (nI cs.length)), (2, .ref a)] → W p l e (rmU 8 0 0) s m args below meth c H locs 0 0 (MQ below (va_Qi (fun (r : Int32) (u : Wo) => r = r9.1 ∧ u = r9.2 ∧ okR (some .boolean) r9.1) (Wq P) (Ab P.2.2.2.2.1)) args s 0 0 (Ab P.2.2.2.2.1)) (F0 m 12 ls []) := by
      intro d
      induction d with
      | zero =>
        intro i w H locs ls hi h hP hl
        rw [show cs.drop i = [] from List.drop_eq_nil_iff.mpr (by omega)] at h
        obtain rfl := Option.some.inj h
        refine lv_iload_n hx hb dL_isLine_12 rfl (lv_at hl 0 rfl) ?_
        refine lv_iload_n hx hb dL_isLine_13 rfl (lv_at hl 2 rfl) ?_
        refine lv_icmp_ge (tgt := 38) hx hb dL_isLine_14 (by decide) (fun _ => ?_) (fun c9 => absurd (nI_le (by omega) (by omega)) c9)
        refine lv_iconst (v := 1) hx hb dL_isLine_38 (by decide) ?_
        exact ve_i (v := 1) S hF hP hr hk rfl dL_isLine_39
      | succ d ih =>
        intro i w H locs ls hi h hP hl
        have hil : i < cs.length := by omega
        rw [drop_at hil] at h
        obtain ⟨q1, hq1, h⟩ := ob h
        cases q1 with
        | inl u => cases h
        | inr v9 =>
          rw [Sum.elim_inr] at h
          refine lv_iload_n hx hb dL_isLine_12 rfl (lv_at hl 0 rfl) ?_
          refine lv_iload_n hx hb dL_isLine_13 rfl (lv_at hl 2 rfl) ?_
          refine lv_icmp_ge (tgt := 38) hx hb dL_isLine_14 (by decide) (fun c9 => absurd c9 (nI_ge hil (by omega))) (fun _ => ?_)
          refine lv_aload_n hx hb dL_isLine_17 rfl (lv_at hl 1 rfl) ?_
          refine lv_iload_n hx hb dL_isLine_18 rfl (lv_at hl 0 rfl) ?_
          refine vu_i hP (vu_V S hF hP (h := 0) (hlt _ (by decide)) rfl (by decide) rfl (n_X5_character l P hA hn w (nI i) hq1) ok_X5_character ml_L_276 ⟨(Nat.le_of_ble_eq_true rfl), (Nat.le_of_ble_eq_true rfl)⟩ rfl hl.1 rfl (Nat.le_of_ble_eq_true rfl) dL_isLine_19 ⟨(Nat.le_of_ble_eq_true rfl), (Nat.le_of_ble_eq_true rfl)⟩) (fun H locs _ hP => ?_)
          refine lv_aload_n hx hb dL_isLine_22 rfl (lv_at hl 3 rfl) ?_
          refine lv_iload_n hx hb dL_isLine_23 rfl (lv_at hl 0 rfl) ?_
          refine tt_i hP.2 (tt_V S (C := "java/lang/String") (hT.recv hP.2) (TxB.at hX hT hP.2) TxB.bl (c_J0_charAt l (v := v) ha hil) ⟨to_J0_charAt_5068e.1, to_J0_charAt_5068e.2.2.1, to_J0_charAt_5068e.2.2.2.1, to_J0_charAt_5068e.2.2.2.2.1, to_J0_charAt_5068e.2.2.2.2.2.1, to_J0_charAt_5068e.2.2.2.2.2.2⟩ (S.2.2.2.2 _ (List.mem_cons_of_mem _ to_J0_charAt_5068e.2.1)) tl_L_13 ⟨(Nat.le_of_ble_eq_true rfl), (Nat.le_of_ble_eq_true rfl)⟩ rfl hl.1 rfl (Nat.le_of_ble_eq_true rfl) dL_isLine_24 ⟨(Nat.le_of_ble_eq_true rfl), (Nat.le_of_ble_eq_true rfl)⟩) (fun H1 locs1 ho hz hk9 hS => ?_)
          replace hP : St P s v9.2 H1 locs1 := ⟨hP.1.kept (fun i q hq => hk9 _ (hP.1 i q hq).lt), hS⟩
          refine lv_icmp_eq (tgt := 32) hx hb dL_isLine_27 (by decide) (fun c9 => ?_) (fun c9 => ?_)
          · rw [if_pos c9] at h
            refine lv_iinc (v := nI (i + 1)) (lv' := [(3, .int (nI (i + 1))), (0, .ref (P.2.1 0)), (1, .int (nI cs.length)), (2, .ref a)]) hx hb dL_isLine_32 hl (k := 0) rfl (show nI i + 1 = nI (i + 1) from nI_add i 1) (by decide) rfl (fun ls hl => ?_)
            refine lv_goto (tgt := 12) hx hb dL_isLine_35 (by decide) ?_
            exact ih (i + 1) v9.2 _ _ ls (by omega) h hP hl
          · rw [if_neg c9] at h
            obtain rfl := Option.some.inj h
            refine lv_iconst (v := 0) hx hb dL_isLine_30 (by decide) ?_
            exact ve_i (v := 0) S hF hP hr hk rfl dL_isLine_31
    refine lv_iconst (v := 0) hx hb dL_isLine_10 (by decide) ?_
    refine lv_istore_n (lv' := [(3, .int 0), (0, .ref (P.2.1 0)), (1, .int (nI cs.length)), (2, .ref a)]) hx hb dL_isLine_11 rfl hl (by decide) rfl (fun ls hl => ?_)
    exact loop cs.length 0 w _ _ ls (by omega) (by rw [List.drop_zero]; exact h) hP hl
  · rw [if_neg c9] at h
    obtain rfl := Option.some.inj h
    refine lv_iconst (v := 0) hx hb dL_isLine_8 (by decide) ?_
    exact ve_i (v := 0) S hF hP hr hk rfl dL_isLine_9
set_option maxRecDepth 100000 in
set_option maxHeartbeats 4000000 in
theorem c_L_faults (l : Launch) (P : Pl) (hA : Adr P) (hn : 26 ≤ P.2.2.2.1) (hst : l.stackTraces = false) {a v : Nat} {cs : List Nat} (ha : ascii cs) (w : Wo) (x2 : Int32) {r9 : Int32 × Wo} (h : F_L_faults w cs x2 = some r9) : Met l yL_faults (wsU yL_faults cL_faults 3 (some .boolean)) (rmU 9 1 (6 * 1)) (va_Pc [.ref (P.2.1 0), .ref a, .int x2] (WpT P w a v cs)) (va_Qi (fun (r : Int32) (u : Wo) => r = r9.1 ∧ u = r9.2 ∧ okR (some .boolean) r9.1) (Wq P) (Ab P.2.2.2.2.1)) 1 (6 * 1) (Ab P.2.2.2.2.1) := by
  have hlt : ∀ h, h < 26 → h < P.2.2.2.1 := fun h q => Nat.lt_of_lt_of_le q hn
  refine tm_met (by decide +kernel) (Nat.le_of_ble_eq_true rfl) (fun p e s m args below meth c ls S hB hl hr hk hnm => ?_)
  have hx := S.1
  have hb := S.2.1
  replace hl : lv_has ls 3 [(0, .ref (P.2.1 0)), (1, .ref a), (2, .int x2)] := hl
  obtain ⟨hW, hX, hT⟩ := hB
  obtain ⟨hF, hP⟩ := hW.fx hA
  unfold F_L_faults at h
  obtain ⟨w1, h1, h3⟩ := ob h
  obtain ⟨q2, h2, h4⟩ := ob h3
  clear h h3
  refine lv_aload_n hx hb dL_faults_0 rfl (lv_at hl 0 rfl) ?_
  refine lv_aload_n hx hb dL_faults_1 rfl (lv_at hl 1 rfl) ?_
  refine va_callv (tt_S S (fun U hU hW9 => ⟨hP.W hF hU hW9, hX.at hP.2 (fun _ z => z) hU hW9, hT.at hP.2 (fun _ z => z) hU hW9⟩) WpT.bl (c_L_put l P hA hn ha w h1) ok_L_put ml_L_159 ⟨(Nat.le_of_ble_eq_true rfl), (Nat.le_of_ble_eq_true rfl)⟩ rfl hl.1 rfl (Nat.le_of_ble_eq_true rfl) dL_faults_2 ⟨(Nat.le_of_ble_eq_true rfl), (Nat.le_of_ble_eq_true rfl)⟩) hP.2 (fun _ _ z => z) (fun _ z => z) (fun u t H locs ht _ hw hB9 _ _ hS => ?_)
  subst hw
  subst ht
  replace hP : St P s u t.heap locs := ⟨hB9, hS⟩
  refine lv_aload_n hx hb dL_faults_5 rfl (lv_at hl 0 rfl) ?_
  refine vu_SW S hF hP (c_L_runs l P hA hn hst u h2) ok_L_runs ml_L_173 ⟨(Nat.le_of_ble_eq_true rfl), (Nat.le_of_ble_eq_true rfl)⟩ rfl hl.1 rfl (Nat.le_of_ble_eq_true rfl) dL_faults_6 ⟨(Nat.le_of_ble_eq_true rfl), (Nat.le_of_ble_eq_true rfl)⟩ (fun H locs hP => ?_)
  refine lv_iconst (v := (-1)) hx hb dL_faults_9 (by decide) ?_
  refine lv_icmp_ne (tgt := 25) hx hb dL_faults_10 (by decide) (fun c9 => ?_) (fun c9 => ?_)
  · rw [if_neg c9] at h4
    obtain rfl := Option.some.inj h4
    refine lv_iconst (v := 0) hx hb dL_faults_25 (by decide) ?_
    exact ve_i (v := 0) S hF hP hr hk rfl dL_faults_26
  · rw [if_pos c9] at h4
    refine lv_aload_n hx hb dL_faults_13 rfl (lv_at hl 0 rfl) ?_
    refine vu_i hP (vu_V S hF hP (h := 0) (hlt _ (by decide)) rfl (by decide) rfl (c_X5_errorPosition l P hA hn q2.2) ok_X5_errorPosition ml_L_165 ⟨(Nat.le_of_ble_eq_true rfl), (Nat.le_of_ble_eq_true rfl)⟩ rfl hl.1 rfl (Nat.le_of_ble_eq_true rfl) dL_faults_14 ⟨(Nat.le_of_ble_eq_true rfl), (Nat.le_of_ble_eq_true rfl)⟩) (fun H locs _ hP => ?_)
    refine lv_iload_n hx hb dL_faults_17 rfl (lv_at hl 2 rfl) ?_
    refine lv_icmp_ne (tgt := 25) hx hb dL_faults_18 (by decide) (fun c8 => ?_) (fun c8 => ?_)
    · rw [if_neg c8] at h4
      obtain rfl := Option.some.inj h4
      refine lv_iconst (v := 0) hx hb dL_faults_25 (by decide) ?_
      exact ve_i (v := 0) S hF hP hr hk rfl dL_faults_26
    · rw [if_pos c8] at h4
      obtain rfl := Option.some.inj h4
      refine lv_iconst (v := 1) hx hb dL_faults_21 (by decide) ?_
      refine lv_goto (tgt := 26) hx hb dL_faults_22 (by decide) ?_
      exact ve_i (v := 1) S hF hP hr hk rfl dL_faults_26
