/-! HOW A METHOD BEGINS AND ENDS -/
theorem gI_pI {w : Wo} {h k a b : Nat} {v : Int32} : gI (pI w h k v) a b = if a = h ∧ b = k then v else gI w a b := rfl
theorem gL_pI {w : Wo} {h k a b : Nat} {v : Int32} : gL (pI w h k v) a b = gL w a b := rfl
theorem gD_pI {w : Wo} {h k a b : Nat} {v : Int32} : gD (pI w h k v) a b = gD w a b := rfl
theorem gI_pL {w : Wo} {h k a b : Nat} {v : Int64} : gI (pL w h k v) a b = gI w a b := rfl
theorem gL_pL {w : Wo} {h k a b : Nat} {v : Int64} : gL (pL w h k v) a b = if a = h ∧ b = k then v else gL w a b := rfl
theorem gD_pL {w : Wo} {h k a b : Nat} {v : Int64} : gD (pL w h k v) a b = gD w a b := rfl
/-- a loop: at most n rounds -/
def jl1 {A ρ : Type} (f : (A → Option ρ) → A → Option ρ) : Nat → A → Option ρ
  | 0 => fun _ => none
  | n + 1 => f (jl1 f n)
def jl2 {A B ρ : Type} (f : (A → B → Option ρ) → A → B → Option ρ) : Nat → A → B → Option ρ
  | 0 => fun _ _ => none
  | n + 1 => f (jl2 f n)
def jl3 {A B C ρ : Type} (f : (A → B → C → Option ρ) → A → B → C → Option ρ) : Nat → A → B → C → Option ρ
  | 0 => fun _ _ _ => none
  | n + 1 => f (jl3 f n)
def jl4 {A B C D ρ : Type} (f : (A → B → C → D → Option ρ) → A → B → C → D → Option ρ) : Nat → A → B → C → D → Option ρ
  | 0 => fun _ _ _ _ => none
  | n + 1 => f (jl4 f n)
def jl5 {A B C D E ρ : Type} (f : (A → B → C → D → E → Option ρ) → A → B → C → D → E → Option ρ) : Nat → A → B → C → D → E → Option ρ
  | 0 => fun _ _ _ _ _ => none
  | n + 1 => f (jl5 f n)
/-- how many rounds a loop may take: far more than any does -/
def fu : Nat := 4000
theorem ob {α β : Type} {o : Option α} {f : α → Option β} {b : β} (h : o.bind f = some b) : ∃ a, o = some a ∧ f a = some b := Option.bind_eq_some_iff.mp h
theorem nar_c {v : Int32} (h : (v.toUInt32 % 65536).toInt32 = v) : narrow .char (.int v) = .int v := by
  rw [← h]
  exact pk_nc v
theorem nar_z {v : Int32} (h : v = 0 ∨ v = 1) : narrow .boolean (.int v) = .int v := by
  rcases h with rfl | rfl <;> rfl
theorem fit_z {v : Int32} (h : v = 0 ∨ v = 1) : fits .boolean (.int v) = true := by
  rcases h with rfl | rfl <;> rfl
section VS
variable {l : Launch} {P : Pl} {y : MethodName} {b : ByteArray} {nL : Nat} {ret : Option FieldType} {d mc ms : Nat} {As : List Value} {w : Wo}
variable {Qc : Array Value → State → Outcome → State → Prop} {XC : String → State → State → Prop} {free : Addr → Prop}
/-- a body that throws nothing -/
theorem vs_met (hA : Adr P) (hpl : plainName y.cls = true) (hlen : (lg_sl As).length ≤ nL)
    (body : ∀ (p : Program) (e : Env) (s : State) (m : MethodId) (args : Array Value) (below : List Frame) (meth : Method) (c : Code) (ls : Array Slot), CallFix p m c b nL s args (wsU y b nL ret) y.cls → Fx P s → St P s w s.heap [] → lv_has ls nL (lv_args 0 As) → meth.sig.returnType = ret → meth.locks = false →
      W p l e (rmU d mc ms) s m args below meth c s.heap [] 0 0 (MQ below Qc args s mc ms free) (F0 m 0 ls [])) :
    Met l y (wsU y b nL ret) (rmU d mc ms) (va_Pc As (Wp P w)) Qc mc ms free := by
  refine Met.ofW (cc := b) (maxL := nL) (ret := ret) hpl rfl ?_
  intro p e s m args below meth c s₁ B hml hv
  obtain ⟨rfl, hW⟩ := hv
  obtain ⟨hF, hP⟩ := hW.fx hA
  rw [lg_entry_eq]
  exact body p e s m _ below meth c _ ⟨B.exec, B.bytes, hml, findClass_of_methodNamed B.named, atoms_spec (ws := wsU y b nL ret) B.pre⟩ hF hP (lv_entry As hlen) B.returns B.notSynchronized
/-- a body that may throw -/
theorem vs_vx (hA : Adr P) (hpl : plainName y.cls = true) (hlen : (lg_sl As).length ≤ nL)
    (body : ∀ (p : Program) (e : Env) (s : State) (m : MethodId) (args : Array Value) (below : List Frame) (meth : Method) (c : Code) (ls : Array Slot), CallFix p m c b nL s args (wsU y b nL ret) y.cls → Fx P s → St P s w s.heap [] → lv_has ls nL (lv_args 0 As) → meth.sig.returnType = ret → meth.locks = false → (∀ x ∈ c.exceptionTable.toList, False) →
      W p l e (rmU d mc ms) s m args below meth c s.heap [] 0 0 (vx_MQ below Qc XC args s mc ms free) (F0 m 0 ls [])) :
    vx_Met l y (wsU y b nL ret) (rmU d mc ms) (va_Pc As (Wp P w)) Qc XC mc ms free := by
  refine vx_ofW (cc := b) (maxL := nL) (ret := ret) hpl rfl ?_
  intro p e s m args below meth c s₁ B hml hx hv
  obtain ⟨rfl, hW⟩ := hv
  obtain ⟨hF, hP⟩ := hW.fx hA
  rw [lg_entry_eq]
  exact body p e s m _ below meth c _ ⟨B.exec, B.bytes, hml, findClass_of_methodNamed B.named, atoms_spec (ws := wsU y b nL ret) B.pre⟩ hF hP (lv_entry As hlen) B.returns B.notSynchronized hx
end VS
section VE
variable {p : Program} {l : Launch} {e : Env} {R : Room} {s : State} {m : MethodId} {args : Array Value} {below : List Frame} {meth : Method} {c : Code} {H : Heap} {locs : List Loc} {cells slots mc ms : Nat}
variable {cc : ByteArray} {pc nL : Nat} {ls : Array Slot} {own : String} {Ts : List Cond} {P : Pl} {w : Wo} {ret : Option FieldType}
theorem ve_i {v : Int32} {ty : FieldType} (S : CallFix p m c cc nL s args Ts own) (hF : Fx P s) (hP : St P s w H locs) (hr : meth.sig.returnType = some ty) (hlocks : meth.locks = false) (hn : narrow ty (.int v) = .int v) (hdg : decode cc pc = .ok (.ireturn, 1)) :
    W p l e R s m args below meth c H locs cells slots (MQ below (va_Qi (fun (r : Int32) (u : Wo) => r = v ∧ u = w ∧ okR (some ty) v) (Wq P) (Ab P.2.2.2.2.1)) args s cells slots (Ab P.2.2.2.2.1)) (F0 m pc ls [.int v]) :=
  W.zret S.1 S.2.1 hr hn (fun _ ht _ => ⟨⟨v, w, rfl, ⟨rfl, rfl, hn⟩, hP.Q ht⟩, hP.2.F ht⟩) hP.2.2.2 hdg hlocks
theorem ve_l {v : Int64} (S : CallFix p m c cc nL s args Ts own) (hF : Fx P s) (hP : St P s w H locs) (hr : meth.sig.returnType = some .long) (hlocks : meth.locks = false) (hdg : decode cc pc = .ok (.lreturn, 1)) :
    W p l e R s m args below meth c H locs cells slots (MQ below (va_Ql (fun (r : Int64) (u : Wo) => r = v ∧ u = w) (Wq P) (Ab P.2.2.2.2.1)) args s cells slots (Ab P.2.2.2.2.1)) (F0 m pc ls [.long v]) :=
  W.lret S.1 S.2.1 hr (fun _ ht _ => ⟨⟨v, w, rfl, ⟨rfl, rfl⟩, hP.Q ht⟩, hP.2.F ht⟩) hP.2.2.2 hdg hlocks
theorem ve_f {v : UInt32} (S : CallFix p m c cc nL s args Ts own) (hF : Fx P s) (hP : St P s w H locs) (hr : meth.sig.returnType = some .float) (hlocks : meth.locks = false) (hdg : decode cc pc = .ok (.freturn, 1)) :
    W p l e R s m args below meth c H locs cells slots (MQ below (va_Qf (fun (r : UInt32) (u : Wo) => r = v ∧ u = w) (Wq P) (Ab P.2.2.2.2.1)) args s cells slots (Ab P.2.2.2.2.1)) (F0 m pc ls [.float v]) :=
  W.fret S.1 S.2.1 hr (fun _ ht _ => ⟨⟨v, w, rfl, ⟨rfl, rfl⟩, hP.Q ht⟩, hP.2.F ht⟩) hP.2.2.2 hdg hlocks
theorem ve_d {v : UInt64} (S : CallFix p m c cc nL s args Ts own) (hF : Fx P s) (hP : St P s w H locs) (hr : meth.sig.returnType = some .double) (hlocks : meth.locks = false) (hdg : decode cc pc = .ok (.dreturn, 1)) :
    W p l e R s m args below meth c H locs cells slots (MQ below (va_Qd (fun (r : UInt64) (u : Wo) => r = v ∧ u = w) (Wq P) (Ab P.2.2.2.2.1)) args s cells slots (Ab P.2.2.2.2.1)) (F0 m pc ls [.double v]) :=
  W.dret S.1 S.2.1 hr (fun _ ht _ => ⟨⟨v, w, rfl, ⟨rfl, rfl⟩, hP.Q ht⟩, hP.2.F ht⟩) hP.2.2.2 hdg hlocks
theorem ve_v (S : CallFix p m c cc nL s args Ts own) (hF : Fx P s) (hP : St P s w H locs) (hr : meth.sig.returnType = none) (hlocks : meth.locks = false) (hdg : decode cc pc = .ok (.return_, 1)) :
    W p l e R s m args below meth c H locs cells slots (MQ below (va_Qv (fun (u : Wo) => u = w) (Wq P) (Ab P.2.2.2.2.1)) args s cells slots (Ab P.2.2.2.2.1)) (F0 m pc ls []) :=
  W.vret S.1 S.2.1 hr (fun _ ht _ => ⟨⟨w, rfl, rfl, hP.Q ht⟩, hP.2.F ht⟩) hP.2.2.2 hdg hlocks
theorem ve_r {v : Nat} {C : String} (S : CallFix p m c cc nL s args Ts own) (hF : Fx P s) (hP : St P s w H locs) (hr : meth.sig.returnType = some (.object C)) (hlocks : meth.locks = false) (hdg : decode cc pc = .ok (.areturn, 1)) :
    W p l e R s m args below meth c H locs cells slots (MQ below (va_Qr (fun (u : Wo) => u = w) (fun u a t => a = P.2.1 v ∧ Wq P u t) (Ab P.2.2.2.2.1)) args s cells slots (Ab P.2.2.2.2.1)) (F0 m pc ls [.ref (P.2.1 v)]) :=
  W.aret S.1 S.2.1 hr (Or.inl ⟨_, rfl⟩) (Or.inr ⟨_, rfl⟩) (fun _ ht _ => ⟨⟨w, P.2.1 v, rfl, rfl, rfl, hP.Q ht⟩, hP.2.F ht⟩) hP.2.2.2 hdg hlocks
/-! ends of bodies that may throw -/
theorem ve_xi {v : Int32} {ty : FieldType} {XC : String → State → State → Prop} (S : CallFix p m c cc nL s args Ts own) (hF : Fx P s) (hP : St P s w H locs) (hr : meth.sig.returnType = some ty) (hlocks : meth.locks = false) (hn : narrow ty (.int v) = .int v) (hc : cells ≤ mc) (hs : slots ≤ ms) (hdg : decode cc pc = .ok (.ireturn, 1)) :
    W p l e R s m args below meth c H locs cells slots (vx_MQ below (va_Qi (fun (r : Int32) (u : Wo) => (Sum.inr (v, w) : (Nat × Wo) ⊕ (Int32 × Wo)) = .inr (r, u)) (Wq P) (Ab P.2.2.2.2.1)) XC args s mc ms (Ab P.2.2.2.2.1)) (F0 m pc ls [.int v]) := by
  refine W.widen hc hs (vx_ret ?_)
  exact W.zret S.1 S.2.1 hr hn (fun _ ht _ => ⟨⟨v, w, rfl, rfl, hP.Q ht⟩, hP.2.F ht⟩) hP.2.2.2 hdg hlocks
theorem ve_xd {v : UInt64} {XC : String → State → State → Prop} (S : CallFix p m c cc nL s args Ts own) (hF : Fx P s) (hP : St P s w H locs) (hr : meth.sig.returnType = some .double) (hlocks : meth.locks = false) (hc : cells ≤ mc) (hs : slots ≤ ms) (hdg : decode cc pc = .ok (.dreturn, 1)) :
    W p l e R s m args below meth c H locs cells slots (vx_MQ below (va_Qd (fun (r : UInt64) (u : Wo) => (Sum.inr (v, w) : (Nat × Wo) ⊕ (UInt64 × Wo)) = .inr (r, u)) (Wq P) (Ab P.2.2.2.2.1)) XC args s mc ms (Ab P.2.2.2.2.1)) (F0 m pc ls [.double v]) := by
  refine W.widen hc hs (vx_ret ?_)
  exact W.dret S.1 S.2.1 hr (fun _ ht _ => ⟨⟨v, w, rfl, rfl, hP.Q ht⟩, hP.2.F ht⟩) hP.2.2.2 hdg hlocks
theorem ve_xv {XC : String → State → State → Prop} (S : CallFix p m c cc nL s args Ts own) (hF : Fx P s) (hP : St P s w H locs) (hr : meth.sig.returnType = none) (hlocks : meth.locks = false) (hc : cells ≤ mc) (hs : slots ≤ ms) (hdg : decode cc pc = .ok (.return_, 1)) :
    W p l e R s m args below meth c H locs cells slots (vx_MQ below (va_Qv (fun (u : Wo) => (Sum.inr w : (Nat × Wo) ⊕ Wo) = .inr u) (Wq P) (Ab P.2.2.2.2.1)) XC args s mc ms (Ab P.2.2.2.2.1)) (F0 m pc ls []) := by
  refine W.widen hc hs (vx_ret ?_)
  exact W.vret S.1 S.2.1 hr (fun _ ht _ => ⟨⟨w, rfl, rfl, hP.Q ht⟩, hP.2.F ht⟩) hP.2.2.2 hdg hlocks
/-- a callee's exception goes on to the caller -/
theorem ve_out {α : Type} {Qc : Array Value → State → Outcome → State → Prop} {u : Nat × Wo} {ce : Cell} {q9 : Addr} {rest : List Value} (hF : Fx P s) (hP : St P s u.2 H locs) (hlocks : meth.locks = false) (hx : ∀ x ∈ c.exceptionTable.toList, False) (h1 : H[q9]? = some ce) (h2 : ce.vm = .none) (h3 : s.vm.findClass (exN u.1) = some ce.cls) (hc : cells ≤ mc) (hs : slots ≤ ms) :
    vx_W p l e R s m args below meth c H locs cells slots (vx_MQ below Qc (exX P (α := α) (.inl u)) args s mc ms (Ab P.2.2.2.2.1)) (F0 m pc ls rest) q9 := by
  refine vx_out (E := exN u.1) (ce := ce) (fun x h => (hx x h).elim) hlocks h1 h2 h3 (fun t ht _ => ?_) hP.2.2.2 hc hs
  exact ⟨u, rfl, ⟨rfl, hP.Q ht⟩, hP.2.F ht⟩
/-- 'throw new E("text")' -/
theorem ve_thr {Qc : Array Value → State → Outcome → State → Prop} {rest : List Value} {α : Type} {ik is ic j : Nat} {cls text : String} (hl : l.stackTraces = false) (S : CallFix p m c cc nL s args Ts RX5) (hF : Fx P s) (hP : St P s w H locs) (hTs : ∀ w ∈ ALLW, w ∈ Ts) (hj : exN j = cls) (hfit : Bundle.fit cls = true) (hk : Cond.classLink RX5 ik cls ∈ ALLW) (hini : Cond.initialized cls ∈ ALLW) (hq : (is, text) ∈ strs)
    (hat : ∀ w ∈ vx_atS RX5 ic cls ["java/lang/RuntimeException", "java/lang/Exception"], w ∈ exw ∨ w ∈ ALLW) (hot : (vx_atS RX5 ic cls ["java/lang/RuntimeException", "java/lang/Exception"]).all vx_ot = true) (hsz : ls.size = nL) (hlocks : meth.locks = false) (hx : ∀ x ∈ c.exceptionTable.toList, False)
    (d0 : decode cc pc = .ok (.new ik, 3)) (d3 : decode cc (pc + 3) = .ok (.dup, 1)) (d4 : decode cc (pc + 4) = .ok (.ldc is, 2)) (d6 : decode cc (pc + 6) = .ok (.invokespecial ic, 3)) (d9 : decode cc (pc + 9) = .ok (.athrow, 1))
    (hR : 6 ≤ R.frames ∧ (rest.map fun v => v.category).sum + 82 ≤ R.locals ∧ cells + 1 ≤ R.cells ∧ slots + 6 ≤ R.slots) (hc : cells + 1 ≤ mc) (hs : slots + 6 ≤ ms) :
    W p l e R s m args below meth c H locs cells slots (vx_MQ below Qc (exX P (α := α) (.inl (j, w))) args s mc ms (Ab P.2.2.2.2.1)) (F0 m pc ls rest) := by
  refine vx_throwS S.1 S.2.1 hl S.2.2.2.1 hfit (names := ["java/lang/RuntimeException", "java/lang/Exception"]) (by decide +kernel) (S.2.2.2.2 _ (hTs _ hk)) (S.2.2.2.2 _ (hTs _ hini)) (hF.2.2.1.2.2.1 _ hq) (fun w hw => ?_) (fun w hw => ?_) hF.2.2.1.1 hF.2.2.1.2.1 hP.2 (hsz.trans S.2.2.1.symm) d0 d3 d4 d6 d9 (fun x h => (hx x h).elim) hR.1 hR.2.1 hR.2.2.1 hR.2.2.2 hlocks (fun t _ hz hkp => ?_) hP.2.2.2 hc hs
  · rcases hat w hw with h | h
    · exact va_Nw.use (exw_tab w h) (hF.2.2.1.2.2.2.2.2 w h)
    · exact S.2.2.2.2 _ (hTs _ h)
  · rcases List.mem_cons.mp hw with rfl | hw
    · rfl
    rcases List.mem_cons.mp hw with rfl | hw
    · rfl
    exact List.all_eq_true.mp hot w hw
  · refine ⟨(j, w), rfl, ⟨hj.symm, hP.1.kept (fun k q hk => hkp _ (hP.1 k q hk).lt)⟩, ?_⟩
    exact ⟨Nat.le_trans hP.2.1 hz, fun q h1 h2 => by rw [hkp q (Nat.lt_of_lt_of_le h1 hP.2.1)]; exact hP.2.2.1 q h1 h2⟩
theorem ve_thrW {Qc : Array Value → State → Outcome → State → Prop} {rest : List Value} {α : Type} {ik is ic j : Nat} {cls text : String} (hl : l.stackTraces = false) (S : CallFix p m c cc nL s args Ts RX5) (hF : Fx P s) (hP : St P s w H locs) (hTs : ∀ w ∈ ALLW, w ∈ Ts) (hj : exN j = cls) (hfit : Bundle.fit cls = true) (hk : Cond.classLink RX5 ik cls ∈ ALLW) (hini : Cond.initialized cls ∈ ALLW) (hq : (is, text) ∈ strs)
    (hat : ∀ w ∈ vx_atS RX5 ic cls ["java/lang/RuntimeException", "java/lang/Exception"], w ∈ exw ∨ w ∈ ALLW) (hot : (vx_atS RX5 ic cls ["java/lang/RuntimeException", "java/lang/Exception"]).all vx_ot = true) (hsz : ls.size = nL) (hlocks : meth.locks = false) (hx : ∀ x ∈ c.exceptionTable.toList, False)
    (d0 : decode cc pc = .ok (.new ik, 3)) (d3 : decode cc (pc + 3) = .ok (.dup, 1)) (d4 : decode cc (pc + 4) = .ok (.ldc_w is, 3)) (d6 : decode cc (pc + 7) = .ok (.invokespecial ic, 3)) (d9 : decode cc (pc + 10) = .ok (.athrow, 1))
    (hR : 6 ≤ R.frames ∧ (rest.map fun v => v.category).sum + 82 ≤ R.locals ∧ cells + 1 ≤ R.cells ∧ slots + 6 ≤ R.slots) (hc : cells + 1 ≤ mc) (hs : slots + 6 ≤ ms) :
    W p l e R s m args below meth c H locs cells slots (vx_MQ below Qc (exX P (α := α) (.inl (j, w))) args s mc ms (Ab P.2.2.2.2.1)) (F0 m pc ls rest) := by
  refine vx_throwSW S.1 S.2.1 hl S.2.2.2.1 hfit (names := ["java/lang/RuntimeException", "java/lang/Exception"]) (by decide +kernel) (S.2.2.2.2 _ (hTs _ hk)) (S.2.2.2.2 _ (hTs _ hini)) (hF.2.2.1.2.2.1 _ hq) (fun w hw => ?_) (fun w hw => ?_) hF.2.2.1.1 hF.2.2.1.2.1 hP.2 (hsz.trans S.2.2.1.symm) d0 d3 d4 d6 d9 (fun x h => (hx x h).elim) hR.1 hR.2.1 hR.2.2.1 hR.2.2.2 hlocks (fun t _ hz hkp => ?_) hP.2.2.2 hc hs
  · rcases hat w hw with h | h
    · exact va_Nw.use (exw_tab w h) (hF.2.2.1.2.2.2.2.2 w h)
    · exact S.2.2.2.2 _ (hTs _ h)
  · rcases List.mem_cons.mp hw with rfl | hw
    · rfl
    rcases List.mem_cons.mp hw with rfl | hw
    · rfl
    exact List.all_eq_true.mp hot w hw
  · refine ⟨(j, w), rfl, ⟨hj.symm, hP.1.kept (fun k q hk => hkp _ (hP.1 k q hk).lt)⟩, ?_⟩
    exact ⟨Nat.le_trans hP.2.1 hz, fun q h1 h2 => by rw [hkp q (Nat.lt_of_lt_of_le h1 hP.2.1)]; exact hP.2.2.1 q h1 h2⟩
end VE
/-! how the methods' words are written as functions -/
abbrev jrem (x y : Int32) : Int32 := x - x / y * y
abbrev jshl (x y : Int32) : Int32 := x <<< (y &&& 31)
abbrev jshr (x y : Int32) : Int32 := x >>> (y &&& 31)
abbrev jushr (x y : Int32) : Int32 := (x.toUInt32 >>> (y.toUInt32 &&& Int32.toUInt32 31)).toInt32
abbrev jlshl (x : Int64) (y : Int32) : Int64 := x <<< (y.toInt64 &&& 63)
abbrev jlushr (x : Int64) (y : Int32) : Int64 := (x.toUInt64 >>> (y.toInt64.toUInt64 &&& Int64.toUInt64 63)).toInt64
abbrev ji2c (x : Int32) : Int32 := (x.toUInt32 % 65536).toInt32
abbrev ji2l (x : Int32) : Int64 := x.toInt64
abbrev jl2i (x : Int64) : Int32 := x.toInt32
abbrev jmax (x y : Int32) : Int32 := if x < y then y else x
abbrev jmin (x y : Int32) : Int32 := if y < x then y else x
abbrev jabs (x : Int32) : Int32 := if 0 ≤ x then x else 0 - x
def jchk {α : Type} (c : Prop) [Decidable c] (o : Option α) : Option α := if c then o else none
theorem chk {α : Type} {c : Prop} [Decidable c] {o : Option α} {r : α} (h : jchk c o = some r) : c ∧ o = some r := by
  unfold jchk at h
  by_cases hc : c
  · rw [if_pos hc] at h
    exact ⟨hc, h⟩
  · rw [if_neg hc] at h
    cases h
theorem sw_out {x : Int32} {lo hi : Int} (h : ∀ i : Int, lo ≤ i → i ≤ hi → x ≠ Int32.ofInt i) : x.toInt < lo ∨ hi < x.toInt := by
  rcases Int.lt_or_le x.toInt lo with q | q
  · exact Or.inl q
  · rcases Int.lt_or_le hi x.toInt with q2 | q2
    · exact Or.inr q2
    · exact absurd (by simp) (h x.toInt q q2)
abbrev QI (P : Pl) (ret : Option FieldType) (v : Int32) (w : Wo) (below : List Frame) (args : Array Value) (s : State) : State → Prop := MQ below (va_Qi (fun (r : Int32) (u : Wo) => r = v ∧ u = w ∧ okR ret v) (Wq P) (Ab P.2.2.2.2.1)) args s 0 0 (Ab P.2.2.2.2.1)
abbrev QL (P : Pl) (v : Int64) (w : Wo) (below : List Frame) (args : Array Value) (s : State) : State → Prop := MQ below (va_Ql (fun (r : Int64) (u : Wo) => r = v ∧ u = w) (Wq P) (Ab P.2.2.2.2.1)) args s 0 0 (Ab P.2.2.2.2.1)
abbrev QF (P : Pl) (v : UInt32) (w : Wo) (below : List Frame) (args : Array Value) (s : State) : State → Prop := MQ below (va_Qf (fun (r : UInt32) (u : Wo) => r = v ∧ u = w) (Wq P) (Ab P.2.2.2.2.1)) args s 0 0 (Ab P.2.2.2.2.1)
abbrev QD (P : Pl) (v : UInt64) (w : Wo) (below : List Frame) (args : Array Value) (s : State) : State → Prop := MQ below (va_Qd (fun (r : UInt64) (u : Wo) => r = v ∧ u = w) (Wq P) (Ab P.2.2.2.2.1)) args s 0 0 (Ab P.2.2.2.2.1)
abbrev QV (P : Pl) (w : Wo) (below : List Frame) (args : Array Value) (s : State) : State → Prop := MQ below (va_Qv (fun (u : Wo) => u = w) (Wq P) (Ab P.2.2.2.2.1)) args s 0 0 (Ab P.2.2.2.2.1)
abbrev QR (P : Pl) (v : Nat) (w : Wo) (below : List Frame) (args : Array Value) (s : State) : State → Prop := MQ below (va_Qr (fun (u : Wo) => u = w) (fun u a t => a = P.2.1 v ∧ Wq P u t) (Ab P.2.2.2.2.1)) args s 0 0 (Ab P.2.2.2.2.1)
abbrev XI (P : Pl) (mc : Nat) (o : (Nat × Wo) ⊕ (Int32 × Wo)) (below : List Frame) (args : Array Value) (s : State) : State → Prop := vx_MQ below (va_Qi (fun (r : Int32) (u : Wo) => o = .inr (r, u)) (Wq P) (Ab P.2.2.2.2.1)) (exX P o) args s mc (6 * mc) (Ab P.2.2.2.2.1)
abbrev XD (P : Pl) (mc : Nat) (o : (Nat × Wo) ⊕ (UInt64 × Wo)) (below : List Frame) (args : Array Value) (s : State) : State → Prop := vx_MQ below (va_Qd (fun (r : UInt64) (u : Wo) => o = .inr (r, u)) (Wq P) (Ab P.2.2.2.2.1)) (exX P o) args s mc (6 * mc) (Ab P.2.2.2.2.1)
abbrev XV (P : Pl) (mc : Nat) (o : (Nat × Wo) ⊕ Wo) (below : List Frame) (args : Array Value) (s : State) : State → Prop := vx_MQ below (va_Qv (fun (u : Wo) => o = .inr u) (Wq P) (Ab P.2.2.2.2.1)) (exX P o) args s mc (6 * mc) (Ab P.2.2.2.2.1)
