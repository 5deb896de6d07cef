/-- an answer of a narrow type is in its range -/
def okR (ret : Option FieldType) (v : Int32) : Prop := match ret with
  | some t => narrow t (.int v) = .int v
  | none => True
/-! CONTRACTS AND CALLS. A method that throws nothing: its answer and the world behind it -/
abbrev CtI (l : Launch) (P : Pl) (y : MethodName) (b : ByteArray) (mL : Nat) (ret : Option FieldType) (d : Nat) (As : List Value) (w : Wo) (v : Int32) (w' : Wo) : Prop := Met l y (wsU y b mL ret) (rmU d 0 0) (va_Pc As (Wp P w)) (va_Qi (fun (r : Int32) (u : Wo) => r = v ∧ u = w' ∧ okR ret v) (Wq P) (Ab P.2.2.2.2.1)) 0 0 (Ab P.2.2.2.2.1)
abbrev CtL (l : Launch) (P : Pl) (y : MethodName) (b : ByteArray) (mL : Nat) (ret : Option FieldType) (d : Nat) (As : List Value) (w : Wo) (v : Int64) (w' : Wo) : Prop := Met l y (wsU y b mL ret) (rmU d 0 0) (va_Pc As (Wp P w)) (va_Ql (fun (r : Int64) (u : Wo) => r = v ∧ u = w') (Wq P) (Ab P.2.2.2.2.1)) 0 0 (Ab P.2.2.2.2.1)
abbrev CtF (l : Launch) (P : Pl) (y : MethodName) (b : ByteArray) (mL : Nat) (ret : Option FieldType) (d : Nat) (As : List Value) (w : Wo) (v : UInt32) (w' : Wo) : Prop := Met l y (wsU y b mL ret) (rmU d 0 0) (va_Pc As (Wp P w)) (va_Qf (fun (r : UInt32) (u : Wo) => r = v ∧ u = w') (Wq P) (Ab P.2.2.2.2.1)) 0 0 (Ab P.2.2.2.2.1)
abbrev CtD (l : Launch) (P : Pl) (y : MethodName) (b : ByteArray) (mL : Nat) (ret : Option FieldType) (d : Nat) (As : List Value) (w : Wo) (v : UInt64) (w' : Wo) : Prop := Met l y (wsU y b mL ret) (rmU d 0 0) (va_Pc As (Wp P w)) (va_Qd (fun (r : UInt64) (u : Wo) => r = v ∧ u = w') (Wq P) (Ab P.2.2.2.2.1)) 0 0 (Ab P.2.2.2.2.1)
abbrev CtV (l : Launch) (P : Pl) (y : MethodName) (b : ByteArray) (mL : Nat) (ret : Option FieldType) (d : Nat) (As : List Value) (w : Wo) (w' : Wo) : Prop := Met l y (wsU y b mL ret) (rmU d 0 0) (va_Pc As (Wp P w)) (va_Qv (fun (u : Wo) => u = w') (Wq P) (Ab P.2.2.2.2.1)) 0 0 (Ab P.2.2.2.2.1)
/-- an answer that is the thing v -/
abbrev CtR (l : Launch) (P : Pl) (y : MethodName) (b : ByteArray) (mL : Nat) (ret : Option FieldType) (d : Nat) (As : List Value) (w : Wo) (v : Nat) (w' : Wo) : Prop := Met l y (wsU y b mL ret) (rmU d 0 0) (va_Pc As (Wp P w)) (va_Qr (fun (u : Wo) => u = w') (fun u a t => a = P.2.1 v ∧ Wq P u t) (Ab P.2.2.2.2.1)) 0 0 (Ab P.2.2.2.2.1)
/-- the exceptions by number -/
def exN : Nat → String
  | 1 => "java/lang/IndexOutOfBoundsException"
  | 2 => "java/lang/IllegalArgumentException"
  | 3 => "java/lang/UnsupportedOperationException"
  | 4 => "java/util/NoSuchElementException"
  | 5 => "java/lang/IllegalStateException"
  | _ => "java/lang/ArithmeticException"
abbrev exX (P : Pl) {α : Type} (o : (Nat × Wo) ⊕ α) : String → State → State → Prop := vx_X (fun (u : Nat × Wo) => o = .inl u) (fun E u t => E = exN u.1 ∧ Wq P u.2 t) (Ab P.2.2.2.2.1)
/-- a method that may throw: the number of what it throws and the world, or its answer and the world -/
abbrev CxI (l : Launch) (P : Pl) (y : MethodName) (b : ByteArray) (mL : Nat) (ret : Option FieldType) (d mc : Nat) (As : List Value) (w : Wo) (o : (Nat × Wo) ⊕ (Int32 × Wo)) : Prop := vx_Met l y (wsU y b mL ret) (rmU d mc (6 * mc)) (va_Pc As (Wp P w)) (va_Qi (fun (r : Int32) (u : Wo) => o = .inr (r, u)) (Wq P) (Ab P.2.2.2.2.1)) (exX P o) mc (6 * mc) (Ab P.2.2.2.2.1)
abbrev CxD (l : Launch) (P : Pl) (y : MethodName) (b : ByteArray) (mL : Nat) (ret : Option FieldType) (d mc : Nat) (As : List Value) (w : Wo) (o : (Nat × Wo) ⊕ (UInt64 × Wo)) : Prop := vx_Met l y (wsU y b mL ret) (rmU d mc (6 * mc)) (va_Pc As (Wp P w)) (va_Qd (fun (r : UInt64) (u : Wo) => o = .inr (r, u)) (Wq P) (Ab P.2.2.2.2.1)) (exX P o) mc (6 * mc) (Ab P.2.2.2.2.1)
abbrev CxV (l : Launch) (P : Pl) (y : MethodName) (b : ByteArray) (mL : Nat) (ret : Option FieldType) (d mc : Nat) (As : List Value) (w : Wo) (o : (Nat × Wo) ⊕ Wo) : Prop := vx_Met l y (wsU y b mL ret) (rmU d mc (6 * mc)) (va_Pc As (Wp P w)) (va_Qv (fun (u : Wo) => o = .inr u) (Wq P) (Ab P.2.2.2.2.1)) (exX P o) mc (6 * mc) (Ab P.2.2.2.2.1)
/-- what the tables say of a method that is called -/
abbrev okV (y : MethodName) (b : ByteArray) (mL : Nat) (ret : Option FieldType) (n : Nat) : Prop := Cond.instanceMethod y ∈ ALLW ∧ Cond.selects y.cls y y ∈ ALLW ∧ Cond.initialized y.cls ∈ ALLW ∧ Cond.code y b mL ret ∈ ALLW ∧ y.cls ≠ "java/lang/invoke/MethodHandle" ∧ y.cls ≠ "java/lang/invoke/VarHandle" ∧ (parseMethodDescriptor y.desc).map (fun d => d.parameters.length) = some n
abbrev okS (y : MethodName) (b : ByteArray) (mL : Nat) (ret : Option FieldType) (n : Nat) : Prop := Cond.static y ∈ ALLW ∧ Cond.initialized y.cls ∈ ALLW ∧ Cond.code y b mL ret ∈ ALLW ∧ y.cls ≠ "java/lang/invoke/MethodHandle" ∧ y.cls ≠ "java/lang/invoke/VarHandle" ∧ (parseMethodDescriptor y.desc).map (fun d => d.parameters.length) = some n
abbrev okI (y : MethodName) (b : ByteArray) (mL : Nat) (n : Nat) : Prop := Cond.instanceMethod y ∈ ALLW ∧ Cond.initialized y.cls ∈ ALLW ∧ Cond.code y b mL none ∈ ALLW ∧ y.cls ≠ "java/lang/invoke/MethodHandle" ∧ y.cls ≠ "java/lang/invoke/VarHandle" ∧ (parseMethodDescriptor y.desc).map (fun d => d.parameters.length) = some n ∧ y.name = "<init>"
theorem allG {c : Cond} : GoodIn (c :: ALLW) ALLW := fun _ hw => ⟨List.mem_cons_of_mem _ hw, good_of_word (List.mem_filter.mp hw).2⟩
theorem consG {c a : Cond} {ws : List Cond} (ha : a ∈ ALLW) (h : GoodIn (c :: ALLW) ws) : GoodIn (c :: ALLW) (a :: ws) := by
  intro w hw
  rcases List.mem_cons.mp hw with rfl | q
  · exact ⟨List.mem_cons_of_mem _ ha, good_of_word (List.mem_filter.mp ha).2⟩
  · exact h w q
section VU
variable {p : Program} {l : Launch} {e : Env} {R : Room} {s : State} {m : MethodId} {args : Array Value} {below : List Frame} {meth : Method} {c : Code} {H : Heap} {locs : List Loc} {cells slots : Nat} {Q : State → Prop}
variable {cc b : ByteArray} {pc nL mL : Nat} {ls : Array Slot} {rest st0 As : List Value} {own C host : String} {P : Pl} {w : Wo} {T : u_T} {N ci k index n d mc ms : Nat} {c0 : Cond} {y : MethodName} {ret : Option FieldType}
variable {Qc : Array Value → State → Outcome → State → Prop} {XC : String → State → State → Prop} {free : Addr → Prop}
theorem vu_blind {As : List Value} {w : Wo} : FrameBlind (va_Pc As (Wp P w)) := fun _ _ _ _ q => ⟨q.1, q.2.blind⟩
theorem vu_preS (hF : Fx P s) (hP : St P s w H locs) : PreS s H (va_Pc As (Wp P w)) As := ⟨vu_blind, fun _ hU hW => ⟨rfl, hP.W hF hU hW⟩⟩
theorem vu_preV (hF : Fx P s) (hP : St P s w H locs) {h : Nat} (hh : h < P.2.2.2.1) (hs : (shp h).1 = ci) (hc7 : ci < 7) (hc : vc[ci]? = some (C, T, N)) : PreV s H C (P.2.1 h) (va_Pc (.ref (P.2.1 h) :: As) (Wp P w)) As :=
  ⟨vu_blind, va_recv (q := (C, T, N)) hF.2.1 hP.1 hc (by rw [wl_at hh, ce_obj hs hc7]), fun _ hU hW => ⟨rfl, hP.W hF hU hW⟩⟩
/-- a virtual call of a method that throws nothing: how it runs -/
theorem vu_V (S : CallFix p m c cc nL s args (c0 :: ALLW) own) (hF : Fx P s) (hP : St P s w H locs) {h : Nat} (hh : h < P.2.2.2.1) (hs : (shp h).1 = ci) (hc7 : ci < 7) (hc : vc[ci]? = some (y.cls, T, N)) (hM : Met l y (wsU y b mL ret) (rmU d mc ms) (va_Pc (.ref (P.2.1 h) :: As) (Wp P w)) Qc mc ms free) (ok : okV y b mL ret n) (hl : Cond.methodLink own index y ∈ ALLW)
    (hR : d + 1 ≤ R.frames ∧ 8 + (mL + 11) + 40 * d ≤ R.locals) (hn : As.length = n) (hsize : ls.size = nL) (hst : st0 = As.reverse ++ .ref (P.2.1 h) :: rest) (hW : (rest.map fun v => v.category).sum ≤ 8) (hdg : decode cc pc = .ok (.invokevirtual index, 3)) (hf : cells + mc ≤ R.cells ∧ slots + ms ≤ R.slots) :
    va_Run p l e R s m args below meth c H locs cells slots mc ms (F0 m pc ls st0) rest (Qc (Value.ref (P.2.1 h) :: As).toArray) free :=
  va_runV S hM (cwV (C := y.cls) n S.2.2.2.2 (consG hl (consG ok.1 (consG ok.2.1 (consG ok.2.2.1 (consG ok.2.2.2.1 allG))))) rfl rfl rfl ⟨rfl, ok.2.2.2.2.1, ok.2.2.2.2.2.1, ok.2.2.2.2.2.2⟩ hR) (vu_preV hF hP hh hs hc7 hc) rfl hn hsize hst (lv_room hW) hdg hf
theorem vu_VX (S : CallFix p m c cc nL s args (c0 :: ALLW) own) (hF : Fx P s) (hP : St P s w H locs) {h : Nat} (hh : h < P.2.2.2.1) (hs : (shp h).1 = ci) (hc7 : ci < 7) (hc : vc[ci]? = some (y.cls, T, N)) (hM : vx_Met l y (wsU y b mL ret) (rmU d mc ms) (va_Pc (.ref (P.2.1 h) :: As) (Wp P w)) Qc XC mc ms free) (ok : okV y b mL ret n) (hl : Cond.methodLink own index y ∈ ALLW)
    (hR : d + 1 ≤ R.frames ∧ 8 + (mL + 11) + 40 * d ≤ R.locals) (hn : As.length = n) (hsize : ls.size = nL) (hst : st0 = As.reverse ++ .ref (P.2.1 h) :: rest) (hW : (rest.map fun v => v.category).sum ≤ 8) (hdg : decode cc pc = .ok (.invokevirtual index, 3)) (hf : cells + mc ≤ R.cells ∧ slots + ms ≤ R.slots) :
    vx_Run p l e R s m args below meth c H locs cells slots mc ms (F0 m pc ls st0) rest (Qc (Value.ref (P.2.1 h) :: As).toArray) XC free :=
  vx_runV S hM (cwV (C := y.cls) n S.2.2.2.2 (consG hl (consG ok.1 (consG ok.2.1 (consG ok.2.2.1 (consG ok.2.2.2.1 allG))))) rfl rfl rfl ⟨rfl, ok.2.2.2.2.1, ok.2.2.2.2.2.1, ok.2.2.2.2.2.2⟩ hR) (vu_preV hF hP hh hs hc7 hc) rfl hn hsize hst (lv_room hW) hdg hf
theorem vu_S (S : CallFix p m c cc nL s args (c0 :: ALLW) own) (hF : Fx P s) (hP : St P s w H locs) (hM : Met l y (wsU y b mL ret) (rmU d mc ms) (va_Pc As (Wp P w)) Qc mc ms free) (ok : okS y b mL ret n) (hl : Cond.methodLink own index y ∈ ALLW)
    (hR : d + 1 ≤ R.frames ∧ 8 + (mL + 11) + 40 * d ≤ R.locals) (hn : As.length = n) (hsize : ls.size = nL) (hst : st0 = As.reverse ++ rest) (hW : (rest.map fun v => v.category).sum ≤ 8) (hdg : decode cc pc = .ok (.invokestatic index, 3)) (hf : cells + mc ≤ R.cells ∧ slots + ms ≤ R.slots) :
    va_Run p l e R s m args below meth c H locs cells slots mc ms (F0 m pc ls st0) rest (Qc As.toArray) free :=
  va_runS S hM (va_cwS n S.2.2.2.2 (consG hl (consG ok.1 (consG ok.2.1 (consG ok.2.2.1 allG)))) rfl rfl rfl ⟨ok.2.2.2.1, ok.2.2.2.2.1, ok.2.2.2.2.2⟩ hR) (vu_preS hF hP) rfl hn hsize hst (lv_room hW) hdg hf
theorem vu_SX (S : CallFix p m c cc nL s args (c0 :: ALLW) own) (hF : Fx P s) (hP : St P s w H locs) (hM : vx_Met l y (wsU y b mL ret) (rmU d mc ms) (va_Pc As (Wp P w)) Qc XC mc ms free) (ok : okS y b mL ret n) (hl : Cond.methodLink own index y ∈ ALLW)
    (hR : d + 1 ≤ R.frames ∧ 8 + (mL + 11) + 40 * d ≤ R.locals) (hn : As.length = n) (hsize : ls.size = nL) (hst : st0 = As.reverse ++ rest) (hW : (rest.map fun v => v.category).sum ≤ 8) (hdg : decode cc pc = .ok (.invokestatic index, 3)) (hf : cells + mc ≤ R.cells ∧ slots + ms ≤ R.slots) :
    vx_Run p l e R s m args below meth c H locs cells slots mc ms (F0 m pc ls st0) rest (Qc As.toArray) XC free :=
  vx_runS S hM (va_cwS n S.2.2.2.2 (consG hl (consG ok.1 (consG ok.2.1 (consG ok.2.2.1 allG)))) rfl rfl rfl ⟨ok.2.2.2.1, ok.2.2.2.2.1, ok.2.2.2.2.2⟩ hR) (vu_preS hF hP) rfl hn hsize hst (lv_room hW) hdg hf
/-- a static call of a private method of a nest mate -/
theorem vu_SN (S : CallFix p m c cc nL s args (c0 :: ALLW) own) (hF : Fx P s) (hP : St P s w H locs) (hM : Met l y (wsU y b mL ret) (rmU d mc ms) (va_Pc As (Wp P w)) Qc mc ms free) (ok : okS y b mL ret n) (hl : (own, index, y, host) ∈ nests)
    (hR : d + 1 ≤ R.frames ∧ 8 + (mL + 11) + 40 * d ≤ R.locals) (hn : As.length = n) (hsize : ls.size = nL) (hst : st0 = As.reverse ++ rest) (hW : (rest.map fun v => v.category).sum ≤ 8) (hdg : decode cc pc = .ok (.invokestatic index, 3)) (hf : cells + mc ≤ R.cells ∧ slots + ms ≤ R.slots) :
    va_Run p l e R s m args below meth c H locs cells slots mc ms (F0 m pc ls st0) rest (Qc As.toArray) free :=
  va_runSN S hM ⟨va_cnB n S.2.2.2.2 (consG ok.2.2.1 allG) rfl rfl rfl (hF.2.2.1.2.2.2.1 _ hl) (S.2.2.2.2 _ (List.mem_cons_of_mem _ ok.2.1)) ⟨ok.2.2.2.1, ok.2.2.2.2.1, ok.2.2.2.2.2⟩ hR, S.2.2.2.2 _ (List.mem_cons_of_mem _ ok.1), trivial⟩ (vu_preS hF hP) rfl hn hsize hst (lv_room hW) hdg hf
section Ends
variable {a : Array Value} {w' : Wo}
theorem vu_i {v : Int32} (hP : St P s w H locs) (hr : va_Run p l e R s m args below meth c H locs cells slots 0 0 (F0 m pc ls st0) rest (va_Qi (fun (r : Int32) (u : Wo) => r = v ∧ u = w' ∧ okR ret v) (Wq P) (Ab P.2.2.2.2.1) a) (Ab P.2.2.2.2.1))
    (kk : ∀ (H1 : Heap) (locs1 : List Loc), okR ret v → St P s w' H1 locs1 → W p l e R s m args below meth c H1 locs1 cells slots Q (F0 m (pc + 3) ls (.int v :: rest))) : W p l e R s m args below meth c H locs cells slots Q (F0 m pc ls st0) := by
  refine va_calli hr hP.2 (fun _ _ h => h) (fun _ h => h) (fun r u t H1 locs1 ht _ hw hB _ _ hS => ?_)
  obtain ⟨rfl, rfl, ho⟩ := hw
  subst ht
  exact kk _ _ ho ⟨hB, hS⟩
theorem vu_l {v : Int64} (hP : St P s w H locs) (hr : va_Run p l e R s m args below meth c H locs cells slots 0 0 (F0 m pc ls st0) rest (va_Ql (fun (r : Int64) (u : Wo) => r = v ∧ u = w') (Wq P) (Ab P.2.2.2.2.1) a) (Ab P.2.2.2.2.1))
    (kk : ∀ (H1 : Heap) (locs1 : List Loc), St P s w' H1 locs1 → W p l e R s m args below meth c H1 locs1 cells slots Q (F0 m (pc + 3) ls (.long v :: rest))) : W p l e R s m args below meth c H locs cells slots Q (F0 m pc ls st0) := by
  refine va_calll hr hP.2 (fun _ _ h => h) (fun _ h => h) (fun r u t H1 locs1 ht _ hw hB _ _ hS => ?_)
  obtain ⟨rfl, rfl⟩ := hw
  subst ht
  exact kk _ _ ⟨hB, hS⟩
theorem vu_f {v : UInt32} (hP : St P s w H locs) (hr : va_Run p l e R s m args below meth c H locs cells slots 0 0 (F0 m pc ls st0) rest (va_Qf (fun (r : UInt32) (u : Wo) => r = v ∧ u = w') (Wq P) (Ab P.2.2.2.2.1) a) (Ab P.2.2.2.2.1))
    (kk : ∀ (H1 : Heap) (locs1 : List Loc), St P s w' H1 locs1 → W p l e R s m args below meth c H1 locs1 cells slots Q (F0 m (pc + 3) ls (.float v :: rest))) : W p l e R s m args below meth c H locs cells slots Q (F0 m pc ls st0) := by
  refine va_callf hr hP.2 (fun _ _ h => h) (fun _ h => h) (fun r u t H1 locs1 ht _ hw hB _ _ hS => ?_)
  obtain ⟨rfl, rfl⟩ := hw
  subst ht
  exact kk _ _ ⟨hB, hS⟩
theorem vu_d {v : UInt64} (hP : St P s w H locs) (hr : va_Run p l e R s m args below meth c H locs cells slots 0 0 (F0 m pc ls st0) rest (va_Qd (fun (r : UInt64) (u : Wo) => r = v ∧ u = w') (Wq P) (Ab P.2.2.2.2.1) a) (Ab P.2.2.2.2.1))
    (kk : ∀ (H1 : Heap) (locs1 : List Loc), St P s w' H1 locs1 → W p l e R s m args below meth c H1 locs1 cells slots Q (F0 m (pc + 3) ls (.double v :: rest))) : W p l e R s m args below meth c H locs cells slots Q (F0 m pc ls st0) := by
  refine va_calld hr hP.2 (fun _ _ h => h) (fun _ h => h) (fun r u t H1 locs1 ht _ hw hB _ _ hS => ?_)
  obtain ⟨rfl, rfl⟩ := hw
  subst ht
  exact kk _ _ ⟨hB, hS⟩
theorem vu_v (hP : St P s w H locs) (hr : va_Run p l e R s m args below meth c H locs cells slots 0 0 (F0 m pc ls st0) rest (va_Qv (fun (u : Wo) => u = w') (Wq P) (Ab P.2.2.2.2.1) a) (Ab P.2.2.2.2.1))
    (kk : ∀ (H1 : Heap) (locs1 : List Loc), St P s w' H1 locs1 → W p l e R s m args below meth c H1 locs1 cells slots Q (F0 m (pc + 3) ls rest)) : W p l e R s m args below meth c H locs cells slots Q (F0 m pc ls st0) := by
  refine va_callv hr hP.2 (fun _ _ h => h) (fun _ h => h) (fun u t H1 locs1 ht _ hw hB _ _ hS => ?_)
  subst hw
  subst ht
  exact kk _ _ ⟨hB, hS⟩
theorem vu_r {v : Nat} (hP : St P s w H locs) (hr : va_Run p l e R s m args below meth c H locs cells slots 0 0 (F0 m pc ls st0) rest (va_Qr (fun (u : Wo) => u = w') (fun u a t => a = P.2.1 v ∧ Wq P u t) (Ab P.2.2.2.2.1) a) (Ab P.2.2.2.2.1))
    (kk : ∀ (H1 : Heap) (locs1 : List Loc), St P s w' H1 locs1 → W p l e R s m args below meth c H1 locs1 cells slots Q (F0 m (pc + 3) ls (.ref (P.2.1 v) :: rest))) : W p l e R s m args below meth c H locs cells slots Q (F0 m pc ls st0) := by
  refine va_callr hr hP.2 (fun _ _ h => h) (fun _ h => h) (fun u ra t H1 locs1 ht _ hw hB _ _ hS => ?_)
  obtain ⟨rfl, hB⟩ := hB
  subst hw
  subst ht
  exact kk _ _ ⟨hB, hS⟩
theorem vu_xi {o : (Nat × Wo) ⊕ (Int32 × Wo)} (hP : St P s w H locs) (hr : vx_Run p l e R s m args below meth c H locs cells slots mc ms (F0 m pc ls st0) rest (va_Qi (fun (r : Int32) (u : Wo) => o = .inr (r, u)) (Wq P) (Ab P.2.2.2.2.1) a) (exX P o) (Ab P.2.2.2.2.1))
    (kx : ∀ (H1 : Heap) (locs1 : List Loc) (u : Nat × Wo) (ce : Cell) (q9 : Addr), o = .inl u → St P s u.2 H1 locs1 → H1[q9]? = some ce → ce.vm = .none → s.vm.findClass (exN u.1) = some ce.cls → vx_W p l e R s m args below meth c H1 locs1 (cells + mc) (slots + ms) Q (F0 m pc ls rest) q9)
    (kk : ∀ (H1 : Heap) (locs1 : List Loc) (r : Int32) (u : Wo), o = .inr (r, u) → St P s u H1 locs1 → W p l e R s m args below meth c H1 locs1 (cells + mc) (slots + ms) Q (F0 m (pc + 3) ls (.int r :: rest))) : W p l e R s m args below meth c H locs cells slots Q (F0 m pc ls st0) := by
  refine vx_calli hr hP.2 (fun _ _ h => h) (fun _ h => h) (fun _ _ h => h) (fun E ce q9 u t H1 locs1 ht _ hw hB _ _ hS h1 h2 h3 => ?_) (fun r u t H1 locs1 ht _ hw hB _ _ hS => ?_)
  · obtain ⟨rfl, hB⟩ := hB
    subst ht
    exact kx _ _ u ce q9 hw ⟨hB, hS⟩ h1 h2 h3
  · subst ht
    exact kk _ _ r u hw ⟨hB, hS⟩
theorem vu_xd {o : (Nat × Wo) ⊕ (UInt64 × Wo)} (hP : St P s w H locs) (hr : vx_Run p l e R s m args below meth c H locs cells slots mc ms (F0 m pc ls st0) rest (va_Qd (fun (r : UInt64) (u : Wo) => o = .inr (r, u)) (Wq P) (Ab P.2.2.2.2.1) a) (exX P o) (Ab P.2.2.2.2.1))
    (kx : ∀ (H1 : Heap) (locs1 : List Loc) (u : Nat × Wo) (ce : Cell) (q9 : Addr), o = .inl u → St P s u.2 H1 locs1 → H1[q9]? = some ce → ce.vm = .none → s.vm.findClass (exN u.1) = some ce.cls → vx_W p l e R s m args below meth c H1 locs1 (cells + mc) (slots + ms) Q (F0 m pc ls rest) q9)
    (kk : ∀ (H1 : Heap) (locs1 : List Loc) (r : UInt64) (u : Wo), o = .inr (r, u) → St P s u H1 locs1 → W p l e R s m args below meth c H1 locs1 (cells + mc) (slots + ms) Q (F0 m (pc + 3) ls (.double r :: rest))) : W p l e R s m args below meth c H locs cells slots Q (F0 m pc ls st0) := by
  refine vx_calld hr hP.2 (fun _ _ h => h) (fun _ h => h) (fun _ _ h => h) (fun E ce q9 u t H1 locs1 ht _ hw hB _ _ hS h1 h2 h3 => ?_) (fun r u t H1 locs1 ht _ hw hB _ _ hS => ?_)
  · obtain ⟨rfl, hB⟩ := hB
    subst ht
    exact kx _ _ u ce q9 hw ⟨hB, hS⟩ h1 h2 h3
  · subst ht
    exact kk _ _ r u hw ⟨hB, hS⟩
theorem vu_xv {o : (Nat × Wo) ⊕ Wo} (hP : St P s w H locs) (hr : vx_Run p l e R s m args below meth c H locs cells slots mc ms (F0 m pc ls st0) rest (va_Qv (fun (u : Wo) => o = .inr u) (Wq P) (Ab P.2.2.2.2.1) a) (exX P o) (Ab P.2.2.2.2.1))
    (kx : ∀ (H1 : Heap) (locs1 : List Loc) (u : Nat × Wo) (ce : Cell) (q9 : Addr), o = .inl u → St P s u.2 H1 locs1 → H1[q9]? = some ce → ce.vm = .none → s.vm.findClass (exN u.1) = some ce.cls → vx_W p l e R s m args below meth c H1 locs1 (cells + mc) (slots + ms) Q (F0 m pc ls rest) q9)
    (kk : ∀ (H1 : Heap) (locs1 : List Loc) (u : Wo), o = .inr u → St P s u H1 locs1 → W p l e R s m args below meth c H1 locs1 (cells + mc) (slots + ms) Q (F0 m (pc + 3) ls rest)) : W p l e R s m args below meth c H locs cells slots Q (F0 m pc ls st0) := by
  refine vx_callv hr hP.2 (fun _ _ h => h) (fun _ h => h) (fun _ _ h => h) (fun E ce q9 u t H1 locs1 ht _ hw hB _ _ hS h1 h2 h3 => ?_) (fun u t H1 locs1 ht _ hw hB _ _ hS => ?_)
  · obtain ⟨rfl, hB⟩ := hB
    subst ht
    exact kx _ _ u ce q9 hw ⟨hB, hS⟩ h1 h2 h3
  · subst ht
    exact kk _ _ u hw ⟨hB, hS⟩
end Ends
end VU
