/-! TEXTS: what the machine knows of a String; calls that write nothing -/
abbrev NoA : Nat → Prop := fun _ => False
def SxA (A : Nat → Prop) (U : State) (H : Heap) : Prop := va_Z "java/lang/String" "COMPACT_STRINGS" "Z" (.int 1) A U H ∧ va_Zq "jdk/internal/util/Preconditions" "SIOOBE_FORMATTER" "Ljava/util/function/BiFunction;" A U H
/-- a String at a, its bytes at v: n of them, by f -/
def TxA (A : Nat → Prop) (a v n : Nat) (f : Nat → Int32) (U : State) (H : Heap) : Prop := va_O "java/lang/String" a A U H ∧ va_OF "java/lang/String" "coder" "B" (.int 0) a A U H ∧ va_OF "java/lang/String" "value" "[B" (.ref v) a A U H ∧ va_T .byte v n (fun j => .int (f j)) A U H
theorem SxA.moved {A : Nat → Prop} {u U : State} {H : Heap} (hvm : u.vm.Alike U.vm) (h : SxA A u H) : SxA A U H := ⟨va_Z.moved hvm h.1, va_Zq.moved hvm h.2⟩
theorem SxA.kept {A : Nat → Prop} {U : State} {H H1 : Heap} (h : SxA A U H) (hq : ∀ a : Nat, a < H.size → ¬ A a → H1[a]? = H[a]?) : SxA A U H1 := ⟨h.1.kept hq, h.2.kept hq⟩
theorem SxA.narrow {A B : Nat → Prop} {U : State} {H : Heap} (h : SxA A U H) (hAB : ∀ q, B q → A q) : SxA B U H := ⟨h.1.narrow hAB, h.2.narrow hAB⟩
theorem TxA.moved {A : Nat → Prop} {a v n : Nat} {f : Nat → Int32} {u U : State} {H : Heap} (hvm : u.vm.Alike U.vm) (h : TxA A a v n f u H) : TxA A a v n f U H := ⟨va_O.moved hvm h.1, va_OF.moved hvm h.2.1, va_OF.moved hvm h.2.2.1, va_T.moved hvm h.2.2.2⟩
theorem TxA.kept {A : Nat → Prop} {a v n : Nat} {f : Nat → Int32} {U : State} {H H1 : Heap} (h : TxA A a v n f U H) (hq : ∀ a : Nat, a < H.size → ¬ A a → H1[a]? = H[a]?) : TxA A a v n f U H1 := ⟨h.1.kept hq, h.2.1.kept hq, h.2.2.1.kept hq, h.2.2.2.kept hq⟩
theorem TxA.narrow {A B : Nat → Prop} {a v n : Nat} {f : Nat → Int32} {U : State} {H : Heap} (h : TxA A a v n f U H) (hAB : ∀ q, B q → A q) : TxA B a v n f U H := ⟨h.1.narrow hAB, h.2.1.narrow hAB, h.2.2.1.narrow hAB, h.2.2.2.narrow hAB⟩
/-- at a state on the way, seen anew -/
theorem SxA.at {A B : Nat → Prop} {s U : State} {H : Heap} {locs : List Loc} (h : SxA A s s.heap) (hS : va_S A s.heap H locs) (hAB : ∀ q, B q → A q) (hU : U.heap = H) (hW : s.WarmedH U.vm) : SxA B U U.heap := by
  subst hU
  exact ((h.kept hS.2.1).narrow hAB).moved hW.alike
theorem TxA.at {A B : Nat → Prop} {a v n : Nat} {f : Nat → Int32} {s U : State} {H : Heap} {locs : List Loc} (h : TxA A a v n f s s.heap) (hS : va_S A s.heap H locs) (hAB : ∀ q, B q → A q) (hU : U.heap = H) (hW : s.WarmedH U.vm) : TxA B a v n f U U.heap := by
  subst hU
  exact ((h.kept hS.2.1).narrow hAB).moved hW.alike
theorem TxA.recv {A : Nat → Prop} {a v n : Nat} {f : Nat → Int32} {s : State} {H : Heap} {locs : List Loc} (h : TxA A a v n f s s.heap) (hS : va_S A s.heap H locs) : ∃ cell : Cell, H[a]? = some cell ∧ cell.vm.isStatics = false ∧ s.vm.findClass "java/lang/String" = some cell.cls := by
  obtain ⟨cell, h1, h2, h3, -⟩ := h.1.kept hS.2.1
  exact ⟨cell, h1, h2, h3⟩
/-- the bytes of a text of letters below 128 -/
def txf (cs : List Nat) : Nat → Int32 := fun j => nI (cs.getD j 0)
def ascii (cs : List Nat) : Prop := (∀ c ∈ cs, c < 128) ∧ cs.length < 2 ^ 31
theorem ascii.at {cs : List Nat} (h : ascii cs) (j : Nat) : cs.getD j 0 < 128 := by
  rw [List.getD_eq_getElem?_getD]
  cases hj : cs[j]? with
  | none => decide
  | some c => exact h.1 c (List.mem_of_getElem? hj)
theorem txt_128 : ∀ c, c < 128 → nI c &&& 255 = nI c ∧ ((nI c).toUInt32 % 65536).toInt32 = nI c ∧ narrow .char (.int (nI c)) = .int (nI c) ∧ fits .byte (.int (nI c)) = true ∧ vp_nar .byte (nI c) = nI c := by decide +kernel
/-- what the tables say of a method of a superclass -/
abbrev okB (y : MethodName) (b : ByteArray) (mL : Nat) (ret : Option FieldType) (n : Nat) : Prop := Cond.instanceMethod y ∈ ALLW ∧ Cond.initialized y.cls ∈ ALLW ∧ Cond.code y b mL ret ∈ ALLW ∧ y.cls ≠ "java/lang/invoke/MethodHandle" ∧ y.cls ≠ "java/lang/invoke/VarHandle" ∧ (parseMethodDescriptor y.desc).map (fun d => d.parameters.length) = some n
abbrev CtT (l : Launch) (y : MethodName) (b : ByteArray) (mL : Nat) (ret : Option FieldType) (d : Nat) (As : List Value) (B : State → Prop) (v : Int32) : Prop := Met l y (wsU y b mL ret) (rmU d 0 0) (va_Pc As B) (va_Qi (fun (r : Int32) (_ : Unit) => r = v ∧ okR ret v) (fun _ _ => True) NoA) 0 0 NoA
abbrev CtTv (l : Launch) (y : MethodName) (b : ByteArray) (mL : Nat) (d : Nat) (As : List Value) (B : State → Prop) : Prop := Met l y (wsU y b mL none) (rmU d 0 0) (va_Pc As B) (va_Qv (fun (_ : Unit) => True) (fun _ _ => True) NoA) 0 0 NoA
section TM
variable {l : Launch} {y : MethodName} {b : ByteArray} {nL : Nat} {ret : Option FieldType} {d mc ms : Nat} {As : List Value} {B : State → Prop}
variable {Qc : Array Value → State → Outcome → State → Prop} {free : Addr → Prop}
theorem tm_met (hpl : plainName y.cls = true) (hlen : (lg_sl As).length ≤ nL)
    (body : ∀ (p : Program) (e : Env) (s : State) (m : MethodId) (args : Array Value) (below : List Frame) (meth : Method) (c : Code) (ls : Array Slot), CallFix p m c b nL s args (wsU y b nL ret) y.cls → B s → lv_has ls nL (lv_args 0 As) → meth.sig.returnType = ret → meth.locks = false → meth.name = y.name →
      W p l e (rmU d mc ms) s m args below meth c s.heap [] 0 0 (MQ below Qc args s mc ms free) (F0 m 0 ls [])) :
    Met l y (wsU y b nL ret) (rmU d mc ms) (va_Pc As B) Qc mc ms free := by
  refine Met.ofW (cc := b) (maxL := nL) (ret := ret) hpl rfl ?_
  intro p e s m args below meth c s₁ B hml hv
  obtain ⟨rfl, hW⟩ := hv
  rw [lg_entry_eq]
  exact body p e s m _ below meth c _ ⟨B.exec, B.bytes, hml, findClass_of_methodNamed B.named, atoms_spec (ws := wsU y b nL ret) B.pre⟩ hW (lv_entry As hlen) B.returns B.notSynchronized (name_of_methodNamed B.named B.method).1
end TM
section TR
variable {p : Program} {l : Launch} {e : Env} {R : Room} {s : State} {m : MethodId} {args : Array Value} {below : List Frame} {meth : Method} {c : Code} {H : Heap} {locs : List Loc} {cells slots : Nat} {Q : State → Prop}
variable {cc b : ByteArray} {pc nL mL : Nat} {ls : Array Slot} {rest st0 As : List Value} {own C : String} {n d index mc ms : Nat} {c0 : Cond} {y : MethodName} {ret : Option FieldType} {A : Nat → Prop} {B : State → Prop} {a : Addr}
variable {Qc : Array Value → State → Outcome → State → Prop} {free : Addr → Prop}
/-- how a virtual call runs; the words of it -/
theorem tt_V (S : CallFix p m c cc nL s args (c0 :: ALLW) own) (hr : ∃ cell : Cell, H[a]? = some cell ∧ cell.vm.isStatics = false ∧ s.vm.findClass C = some cell.cls) (hB : ∀ U : State, U.heap = H → s.WarmedH U.vm → B U) (hbl : ∀ (U : State) (g : JFrame) (mk : MethodId) (a' : Array Value), B U → B (U.calling g mk a')) (hM : Met l y (wsU y b mL ret) (rmU d mc ms) (va_Pc (.ref a :: As) B) Qc mc ms free) (ok : okB y b mL ret n) (hsel : (Cond.selects C y y).before args s = true) (hl : Cond.methodLink own index y ∈ ALLW)
    (hR : d + 1 ≤ R.frames ∧ 8 + (mL + 11) + 40 * d ≤ R.locals) (hn : As.length = n) (hsize : ls.size = nL) (hst : st0 = As.reverse ++ .ref a :: rest) (hW : (rest.map fun v => v.category).sum ≤ 8) (hdg : decode cc pc = .ok (.invokevirtual index, 3)) (hf : cells + mc ≤ R.cells ∧ slots + ms ≤ R.slots) :
    va_Run p l e R s m args below meth c H locs cells slots mc ms (F0 m pc ls st0) rest (Qc (Value.ref a :: As).toArray) free :=
  va_runV S hM ⟨callB_of n S.2.2.2.2 (consG ok.2.2.1 allG) rfl rfl rfl (S.2.2.2.2 _ (List.mem_cons_of_mem _ ok.2.1)) (S.2.2.2.2 _ (List.mem_cons_of_mem _ hl)) ⟨ok.2.2.2.1, ok.2.2.2.2.1, ok.2.2.2.2.2⟩ hR, S.2.2.2.2 _ (List.mem_cons_of_mem _ ok.1), hsel⟩ ⟨fun _ _ _ _ q => ⟨q.1, hbl _ _ _ _ q.2⟩, hr, fun _ hU hW => ⟨rfl, hB _ hU hW⟩⟩ rfl hn hsize hst (lv_room hW) hdg hf
theorem tt_S (S : CallFix p m c cc nL s args (c0 :: ALLW) own) (hB : ∀ U : State, U.heap = H → s.WarmedH U.vm → B U) (hbl : ∀ (U : State) (g : JFrame) (mk : MethodId) (a' : Array Value), B U → B (U.calling g mk a')) (hM : Met l y (wsU y b mL ret) (rmU d mc ms) (va_Pc As B) Qc mc ms free) (ok : okS y b mL ret n) (hl : Cond.methodLink own index y ∈ ALLW)
    (hR : d + 1 ≤ R.frames ∧ 8 + (mL + 11) + 40 * d ≤ R.locals) (hn : As.length = n) (hsize : ls.size = nL) (hst : st0 = As.reverse ++ rest) (hW : (rest.map fun v => v.category).sum ≤ 8) (hdg : decode cc pc = .ok (.invokestatic index, 3)) (hf : cells + mc ≤ R.cells ∧ slots + ms ≤ R.slots) :
    va_Run p l e R s m args below meth c H locs cells slots mc ms (F0 m pc ls st0) rest (Qc As.toArray) free :=
  va_runS S hM (va_cwS n S.2.2.2.2 (consG hl (consG ok.1 (consG ok.2.1 (consG ok.2.2.1 allG)))) rfl rfl rfl ⟨ok.2.2.2.1, ok.2.2.2.2.1, ok.2.2.2.2.2⟩ hR) ⟨fun _ _ _ _ q => ⟨q.1, hbl _ _ _ _ q.2⟩, fun _ hU hW => ⟨rfl, hB _ hU hW⟩⟩ rfl hn hsize hst (lv_room hW) hdg hf
theorem tt_I (S : CallFix p m c cc nL s args (c0 :: ALLW) own) (hB : ∀ U : State, U.heap = H → s.WarmedH U.vm → B U) (hbl : ∀ (U : State) (g : JFrame) (mk : MethodId) (a' : Array Value), B U → B (U.calling g mk a')) (hM : Met l y (wsU y b mL none) (rmU d mc ms) (va_Pc (.ref a :: As) B) Qc mc ms free) (ok : okI y b mL n) (hl : Cond.methodLink own index y ∈ ALLW)
    (hR : d + 1 ≤ R.frames ∧ 8 + (mL + 11) + 40 * d ≤ R.locals) (hn : As.length = n) (hsize : ls.size = nL) (hst : st0 = As.reverse ++ .ref a :: rest) (hW : (rest.map fun v => v.category).sum ≤ 8) (hdg : decode cc pc = .ok (.invokespecial index, 3)) (hf : cells + mc ≤ R.cells ∧ slots + ms ≤ R.slots) :
    va_Run p l e R s m args below meth c H locs cells slots mc ms (F0 m pc ls st0) rest (Qc (Value.ref a :: As).toArray) free :=
  va_runI S hM (cwI n S.2.2.2.2 (consG ok.2.2.1 allG) rfl rfl rfl (S.2.2.2.2 _ (List.mem_cons_of_mem _ ok.2.1)) (S.2.2.2.2 _ (List.mem_cons_of_mem _ hl)) (S.2.2.2.2 _ (List.mem_cons_of_mem _ ok.1)) ok.2.2.2.2.2.2 ⟨ok.2.2.2.1, ok.2.2.2.2.1, ok.2.2.2.2.2.1⟩ hR) ⟨fun _ _ _ _ q => ⟨q.1, hbl _ _ _ _ q.2⟩, fun _ hU hW => ⟨rfl, hB _ hU hW⟩⟩ rfl hn hsize hst (lv_room hW) hdg hf
/-- behind a call that writes nothing -/
theorem tt_i {v : Int32} {aa : Array Value} (hS : va_S A s.heap H locs) (hr : va_Run p l e R s m args below meth c H locs cells slots 0 0 (F0 m pc ls st0) rest (va_Qi (fun (r : Int32) (_ : Unit) => r = v ∧ okR ret v) (fun _ _ => True) NoA aa) NoA)
    (kk : ∀ (H1 : Heap) (locs1 : List Loc), okR ret v → H.size ≤ H1.size → (∀ q : Nat, q < H.size → H1[q]? = H[q]?) → va_S A s.heap H1 locs1 → W p l e R s m args below meth c H1 locs1 cells slots Q (F0 m (pc + 3) ls (.int v :: rest))) : W p l e R s m args below meth c H locs cells slots Q (F0 m pc ls st0) := by
  refine va_calli hr hS (fun _ _ h => h.elim) (fun _ h => h.elim) (fun r u t H1 locs1 ht _ hw _ hz hk hS1 => ?_)
  obtain ⟨rfl, ho⟩ := hw
  exact kk _ _ ho hz (fun q h => hk q h id) hS1
theorem tt_v {aa : Array Value} (hS : va_S A s.heap H locs) (hr : va_Run p l e R s m args below meth c H locs cells slots 0 0 (F0 m pc ls st0) rest (va_Qv (fun (_ : Unit) => True) (fun _ _ => True) NoA aa) NoA)
    (kk : ∀ (H1 : Heap) (locs1 : List Loc), H.size ≤ H1.size → (∀ q : Nat, q < H.size → H1[q]? = H[q]?) → va_S A s.heap H1 locs1 → W p l e R s m args below meth c H1 locs1 cells slots Q (F0 m (pc + 3) ls rest)) : W p l e R s m args below meth c H locs cells slots Q (F0 m pc ls st0) := by
  refine va_callv hr hS (fun _ _ h => h.elim) (fun _ h => h.elim) (fun u t H1 locs1 ht _ hw _ hz hk hS1 => ?_)
  exact kk _ _ hz (fun q h => hk q h id) hS1
/-- ends -/
theorem te_i {v : Int32} {ty : FieldType} (S : CallFix p m c cc nL s args (c0 :: ALLW) own) (hS : va_S NoA s.heap H locs) (hr : meth.sig.returnType = some ty) (hlocks : meth.locks = false) (hn : narrow ty (.int v) = .int v) (hdg : decode cc pc = .ok (.ireturn, 1)) :
    W p l e R s m args below meth c H locs cells slots (MQ below (va_Qi (fun (r : Int32) (_ : Unit) => r = v ∧ okR (some ty) v) (fun _ _ => True) NoA) args s cells slots NoA) (F0 m pc ls [.int v]) :=
  W.zret S.1 S.2.1 hr hn (fun _ ht _ => ⟨⟨v, (), rfl, ⟨rfl, hn⟩, trivial⟩, hS.F ht⟩) hS.2.2 hdg hlocks
theorem te_v (S : CallFix p m c cc nL s args (c0 :: ALLW) own) (hS : va_S NoA s.heap H locs) (hr : meth.sig.returnType = none) (hlocks : meth.locks = false) (hdg : decode cc pc = .ok (.return_, 1)) :
    W p l e R s m args below meth c H locs cells slots (MQ below (va_Qv (fun (_ : Unit) => True) (fun _ _ => True) NoA) args s cells slots NoA) (F0 m pc ls []) :=
  W.vret S.1 S.2.1 hr (fun _ ht _ => ⟨⟨(), rfl, trivial, trivial⟩, hS.F ht⟩) hS.2.2 hdg hlocks
end TR
abbrev TxB (a v n : Nat) (f : Nat → Int32) : State → Prop := fun U => SxA NoA U U.heap ∧ TxA NoA a v n f U U.heap
theorem TxB.bl {a v n : Nat} {f : Nat → Int32} (U : State) (g : JFrame) (mk : MethodId) (a' : Array Value) (h : TxB a v n f U) : TxB a v n f (U.calling g mk a') := ⟨h.1.moved (Vm.Alike.refl U.vm), h.2.moved (Vm.Alike.refl U.vm)⟩
theorem SxA.bl {A : Nat → Prop} (U : State) (g : JFrame) (mk : MethodId) (a' : Array Value) (h : SxA A U U.heap) : SxA A (U.calling g mk a') (U.calling g mk a').heap := h.moved (Vm.Alike.refl U.vm)
theorem TxB.at {A : Nat → Prop} {a v n : Nat} {f : Nat → Int32} {s : State} {H : Heap} {locs : List Loc} (hX : SxA A s s.heap) (hT : TxA A a v n f s s.heap) (hS : va_S A s.heap H locs) (U : State) (hU : U.heap = H) (hW : s.WarmedH U.vm) : TxB a v n f U := ⟨hX.at hS (fun _ h => h.elim) hU hW, hT.at hS (fun _ h => h.elim) hU hW⟩
theorem tf_J0_38 : Cond.fieldLink RJ0 38 "java/lang/String" "COMPACT_STRINGS" "Z" ∈ ALLW := inA 981 (by decide +kernel) (by decide +kernel)
theorem tf_J0_15 : Cond.fieldLink RJ0 15 "java/lang/String" "coder" "B" ∈ ALLW := inA 1290 (by decide +kernel) (by decide +kernel)
theorem tf_J0_1053 : Cond.fieldLink RJ0 1053 "jdk/internal/util/Preconditions" "SIOOBE_FORMATTER" "Ljava/util/function/BiFunction;" ∈ ALLW := inA 997 (by decide +kernel) (by decide +kernel)
theorem to_J3_checkIndex_8e157 : okS yJ3_checkIndex_8e157 cJ3_checkIndex_8e157 3 (some .int) 3 := ⟨inA 1000 (by decide +kernel) (by decide +kernel), inA 59 (by decide +kernel) (by decide +kernel), inA 1001 (by decide +kernel) (by decide +kernel), by decide +kernel, by decide +kernel, by decide +kernel⟩
theorem tl_J0_1059 : Cond.methodLink RJ0 1059 yJ3_checkIndex_8e157 ∈ ALLW := inA 999 (by decide +kernel) (by decide +kernel)
theorem to_J0_checkIndex_df160 : okS yJ0_checkIndex_df160 cJ0_checkIndex_df160 2 none 2 := ⟨inA 995 (by decide +kernel) (by decide +kernel), inA 46 (by decide +kernel) (by decide +kernel), inA 996 (by decide +kernel) (by decide +kernel), by decide +kernel, by decide +kernel, by decide +kernel⟩
theorem tl_J1_9 : Cond.methodLink RJ1 9 yJ0_checkIndex_df160 ∈ ALLW := inA 994 (by decide +kernel) (by decide +kernel)
theorem tf_J0_9 : Cond.fieldLink RJ0 9 "java/lang/String" "value" "[B" ∈ ALLW := inA 1289 (by decide +kernel) (by decide +kernel)
theorem to_J0_coder_7d493 : okV yJ0_coder_7d493 cJ0_coder_7d493 1 (some .byte) 0 := ⟨inA 978 (by decide +kernel) (by decide +kernel), inA 979 (by decide +kernel) (by decide +kernel), inA 46 (by decide +kernel) (by decide +kernel), inA 980 (by decide +kernel) (by decide +kernel), by decide +kernel, by decide +kernel, by decide +kernel⟩
theorem tl_J0_335 : Cond.methodLink RJ0 335 yJ0_coder_7d493 ∈ ALLW := inA 977 (by decide +kernel) (by decide +kernel)
theorem to_J0_isLatin1_aae02 : okV yJ0_isLatin1_aae02 cJ0_isLatin1_aae02 1 (some .boolean) 0 := ⟨inA 988 (by decide +kernel) (by decide +kernel), inA 989 (by decide +kernel) (by decide +kernel), inA 46 (by decide +kernel) (by decide +kernel), inA 990 (by decide +kernel) (by decide +kernel), by decide +kernel, by decide +kernel, by decide +kernel⟩
theorem tl_J0_492 : Cond.methodLink RJ0 492 yJ0_isLatin1_aae02 ∈ ALLW := inA 987 (by decide +kernel) (by decide +kernel)
theorem to_J1_charAt_3b067 : okS yJ1_charAt_3b067 cJ1_charAt_3b067 2 (some .char) 2 := ⟨inA 992 (by decide +kernel) (by decide +kernel), inA 60 (by decide +kernel) (by decide +kernel), inA 993 (by decide +kernel) (by decide +kernel), by decide +kernel, by decide +kernel, by decide +kernel⟩
theorem tl_J0_495 : Cond.methodLink RJ0 495 yJ1_charAt_3b067 ∈ ALLW := inA 991 (by decide +kernel) (by decide +kernel)
