/-! CONSTRUCTORS: the world grows thing by thing; fl says which references are set -/
def vqc (fl : Nat → Nat → Bool) (ad : Nat → Nat) (w : Wo) (h k q : Nat) : Value := if q = 2 then (if fl h k = true then .ref (ad (rf h k)) else .null) else vq ad w h k q
def cec (fl : Nat → Nat → Bool) (ad : Nat → Nat) (cA : Nat → ClassId) (w : Wo) (h : Nat) : va_E := match (shp h).1 with
  | 10 => .inl (cA 0, (shp h).2, .inl (gI w h))
  | 11 => .inl (cA 1, (shp h).2, .inr (.inl (gL w h)))
  | 12 => .inl (cA 2, (shp h).2, .inl (gI w h))
  | 13 => .inl (cA 3, (shp h).2, .inr (.inr (.inr (.inl (gD w h)))))
  | 14 => .inl (cA 4, (shp h).2, .inr (.inr (.inr (.inr (fun j => if fl h j = true then some (ad (rf h j)) else none)))))
  | c => .inr (c, (kds c).mapIdx (fun k q => vqc fl ad w h k q))
def wc (fl : Nat → Nat → Bool) (ad : Nat → Nat) (cA : Nat → ClassId) (n : Nat) (w : Wo) : va_W := (List.range n).map (fun h => (ad h, cec fl ad cA w h))
def upF (fl : Nat → Nat → Bool) (h k : Nat) : Nat → Nat → Bool := fun a b => if a = h ∧ b = k then true else fl a b
section VKW
variable {fl fl' : Nat → Nat → Bool} {ad : Nat → Nat} {cA : Nat → ClassId} {n : Nat} {w w' : Wo} {h ci k : Nat}
theorem wc_at (hh : h < n) : (wc fl ad cA n w)[h]? = some (ad h, cec fl ad cA w h) := by
  simp [wc, hh]
theorem wc_lt {q : Nat × va_E} (hq : (wc fl ad cA n w)[k]? = some q) : k < n ∧ q = (ad k, cec fl ad cA w k) := by
  by_cases hk : k < n
  · rw [wc_at hk] at hq
    exact ⟨hk, (Option.some.inj hq).symm⟩
  · simp [wc, hk] at hq
theorem wc_set {e : va_E} (he : cec fl' ad cA w' h = e) (ho : ∀ j, j ≠ h → cec fl' ad cA w' j = cec fl ad cA w j) : (wc fl ad cA n w).set h (ad h, e) = wc fl' ad cA n w' := by
  apply List.ext_getElem?
  intro j
  rw [List.getElem?_set]
  by_cases hj : h = j
  · subst hj
    by_cases hn : h < n
    · rw [if_pos rfl, if_pos (by simpa [wc] using hn), wc_at hn, he]
    · rw [if_pos rfl, if_neg (by simpa [wc] using hn)]
      simp [wc, hn]
  · rw [if_neg hj]
    by_cases hn : j < n
    · rw [wc_at hn, wc_at hn, ho j (fun q => hj q.symm)]
    · simp [wc, hn]
theorem wc_succ : wc fl ad cA (n + 1) w = wc fl ad cA n w ++ [(ad n, cec fl ad cA w n)] := by
  simp [wc, List.range_succ]
theorem cec_obj (hs : (shp h).1 = ci) (hc : ci < 7) : cec fl ad cA w h = .inr (ci, (kds ci).mapIdx (fun k q => vqc fl ad w h k q)) := by
  unfold cec
  rw [hs]
  match ci, hc with
  | 0, _ => rfl
  | 1, _ => rfl
  | 2, _ => rfl
  | 3, _ => rfl
  | 4, _ => rfl
  | 5, _ => rfl
  | 6, _ => rfl
theorem cec_cong {j : Nat} (e1 : gI w' j = gI w j) (e2 : gL w' j = gL w j) (e3 : gD w' j = gD w j) (e4 : fl' j = fl j) : cec fl' ad cA w' j = cec fl ad cA w j := by
  have e5 : (fun k2 q => vqc fl' ad w' j k2 q) = fun k2 q => vqc fl ad w j k2 q := by funext a b; unfold vqc vq; rw [e1, e2, e4]
  unfold cec
  rw [e1, e2, e3, e4, e5]
theorem cec_pI {j : Nat} {v : Int32} (hj : j ≠ h) : cec fl ad cA (pI w h k v) j = cec fl ad cA w j :=
  cec_cong (by funext b; simp [gI, pI, hj]) (by funext b; simp [gL, pI]) (by funext b; simp [gD, pI]) rfl
theorem cec_pL {j : Nat} {v : Int64} (hj : j ≠ h) : cec fl ad cA (pL w h k v) j = cec fl ad cA w j :=
  cec_cong (by funext b; simp [gI, pL]) (by funext b; simp [gL, pL, hj]) (by funext b; simp [gD, pL]) rfl
theorem cec_upF {j : Nat} (hj : j ≠ h) : cec (upF fl h k) ad cA w j = cec fl ad cA w j :=
  cec_cong rfl rfl rfl (by funext b; simp [upF, hj])
theorem cec_putI {v : Int32} (hs : (shp h).1 = ci) (hc7 : ci < 7) (hq : (kds ci)[k]? = some 0) : cec fl ad cA (pI w h k v) h = .inr (ci, ((kds ci).mapIdx (fun k q => vqc fl ad w h k q)).set k (.int v)) := by
  rw [cec_obj hs hc7]
  congr 2
  refine (mapIdx_set hq (by show vqc fl ad (pI w h k v) h k 0 = _; simp [vqc, vq, gI, pI]) (fun j x hj => ?_)).symm
  have e1 : gI (pI w h k v) h j = gI w h j := by simp [gI, pI, hj]
  have e2 : gL (pI w h k v) h j = gL w h j := rfl
  unfold vqc vq
  rw [e1, e2]
theorem cec_putN (hs : (shp h).1 = ci) (hc7 : ci < 7) (hq : (kds ci)[k]? = some 3) : cec fl ad cA (pI w h k 0) h = .inr (ci, ((kds ci).mapIdx (fun k q => vqc fl ad w h k q)).set k .null) := by
  rw [cec_obj hs hc7]
  congr 2
  refine (mapIdx_set hq (by show vqc fl ad (pI w h k 0) h k 3 = _; simp [vqc, vq, gI, pI]) (fun j x hj => ?_)).symm
  have e1 : gI (pI w h k 0) h j = gI w h j := by simp [gI, pI, hj]
  have e2 : gL (pI w h k 0) h j = gL w h j := rfl
  unfold vqc vq
  rw [e1, e2]
theorem cec_putL {v : Int64} (hs : (shp h).1 = ci) (hc7 : ci < 7) (hq : (kds ci)[k]? = some 1) : cec fl ad cA (pL w h k v) h = .inr (ci, ((kds ci).mapIdx (fun k q => vqc fl ad w h k q)).set k (.long v)) := by
  rw [cec_obj hs hc7]
  congr 2
  refine (mapIdx_set hq (by show vqc fl ad (pL w h k v) h k 1 = _; simp [vqc, vq, gL, pL]) (fun j x hj => ?_)).symm
  have e1 : gI (pL w h k v) h j = gI w h j := rfl
  have e2 : gL (pL w h k v) h j = gL w h j := by simp [gL, pL, hj]
  unfold vqc vq
  rw [e1, e2]
theorem cec_putR (hs : (shp h).1 = ci) (hc7 : ci < 7) (hq : (kds ci)[k]? = some 2) : cec (upF fl h k) ad cA w h = .inr (ci, ((kds ci).mapIdx (fun k q => vqc fl ad w h k q)).set k (.ref (ad (rf h k)))) := by
  rw [cec_obj hs hc7]
  congr 2
  refine (mapIdx_set hq (by show vqc (upF fl h k) ad w h k 2 = _; simp [vqc, upF]) (fun j x hj => ?_)).symm
  unfold vqc
  simp [upF, hj]
theorem cec_aast (hs : (shp h).1 = 14) : cec (upF fl h k) ad cA w h = .inl (cA 4, (shp h).2, .inr (.inr (.inr (.inr (va_up (fun j => if fl h j = true then some (ad (rf h j)) else none) k (some (ad (rf h k)))))))) := by
  unfold cec
  rw [hs]
  refine congrArg (fun f => Sum.inl (cA 4, (shp h).2, Sum.inr (Sum.inr (Sum.inr (Sum.inr f))))) ?_
  funext j
  unfold va_up upF
  by_cases hj : j = k
  · subst hj; simp
  · simp [hj]
/-- when all references are set, it is the world -/
theorem wc_wl (hf : ∀ j, j < n → cec fl ad cA w j = ce ad cA w j) : wc fl ad cA n w = wl ad cA n w := by
  unfold wc wl
  refine List.map_congr_left (fun j hj => ?_)
  rw [hf j (List.mem_range.mp hj)]
theorem cec_all (h0 : ∀ b, fl h b = true) : cec fl ad cA w h = ce ad cA w h := by
  have e5 : (fun k2 q => vqc fl ad w h k2 q) = fun k2 q => vq ad w h k2 q := by
    funext a b
    unfold vqc
    by_cases hb : b = 2
    · subst hb
      rw [if_pos rfl, if_pos (h0 a)]
      rfl
    · rw [if_neg hb]
  have e6 : (fun j => if fl h j = true then some (ad (rf h j)) else none) = fun j => some (ad (rf h j)) := by
    funext j
    rw [if_pos (h0 j)]
  unfold cec ce
  rw [e5, e6]
  rfl
end VKW
abbrev Pn (P : Pl) (n : Nat) : Pl := (P.1, P.2.1, P.2.2.1, n, P.2.2.2.2)
/-- the addresses go up -/
def Up (P : Pl) : Prop := (∀ i j, i < j → P.2.1 i < P.2.1 j) ∧ ∀ i, Ab P.2.2.2.2.1 (P.2.1 i)
theorem Up.adr {P : Pl} (h : Up P) (n : Nat) : Adr (Pn P n) := by
  refine ⟨fun i j _ _ e => ?_, fun i _ => h.2 i⟩
  rcases Nat.lt_trichotomy i j with q | q | q
  · have := h.1 i j q; simp only [Pn] at e; omega
  · exact q
  · have := h.1 j i q; simp only [Pn] at e; omega
def WpC (P : Pl) (fl : Nat → Nat → Bool) (w : Wo) (U : State) : Prop := P.2.2.2.2.1.2.2 ≤ U.heap.size ∧ (va_P P.1 vc (wc fl P.2.1 P.2.2.1 P.2.2.2.1 w) U.heap ∧ U.heap.size = P.2.1 P.2.2.2.1) ∧ va_K P.1 vc (tyl P.2.2.1) U ∧ Ex P.2.2.2.2.1 P.2.2.2.2.2 U ∧ va_AO "VowelTorus$Board" U
def WqC (P : Pl) (fl : Nat → Nat → Bool) (w : Wo) (U : State) : Prop := va_P P.1 vc (wc fl P.2.1 P.2.2.1 P.2.2.2.1 w) U.heap ∧ U.heap.size = P.2.1 P.2.2.2.1
def SC (P : Pl) (s : State) (fl : Nat → Nat → Bool) (w : Wo) (H : Heap) (locs : List Loc) : Prop := (va_P P.1 vc (wc fl P.2.1 P.2.2.1 P.2.2.2.1 w) H ∧ H.size = P.2.1 P.2.2.2.1) ∧ va_S (Ab P.2.2.2.2.1) s.heap H locs
def Fc (P : Pl) (s : State) : Prop := P.2.2.2.2.1.2.2 ≤ s.heap.size ∧ va_K P.1 vc (tyl P.2.2.1) s ∧ Ex P.2.2.2.2.1 P.2.2.2.2.2 s ∧ Up P ∧ va_AO "VowelTorus$Board" s
theorem Fc.n {P : Pl} {s : State} (h : Fc P s) (n : Nat) : Fc (Pn P n) s := h
theorem Fc.fx {P : Pl} {s : State} (h : Fc P s) : Fx P s := ⟨h.1, h.2.1, h.2.2.1, h.2.2.2.1.adr P.2.2.2.1⟩
theorem Fc.D {P : Pl} {s : State} (hF : Fc P s) (fl : Nat → Nat → Bool) (w : Wo) : va_D (Ab P.2.2.2.2.1) (wc fl P.2.1 P.2.2.1 P.2.2.2.1 w) := by
  refine ⟨fun i j p q hi hj e => ?_, fun k q hk => ?_⟩
  · obtain ⟨h1, rfl⟩ := wc_lt hi
    obtain ⟨h2, rfl⟩ := wc_lt hj
    exact (hF.2.2.2.1.adr P.2.2.2.1).1 i j h1 h2 e
  · obtain ⟨h1, rfl⟩ := wc_lt hk
    exact hF.2.2.2.1.2 k
theorem WpC.blind {P : Pl} {fl : Nat → Nat → Bool} {w : Wo} {a : Array Value} {U : State} {g : JFrame} {mk : MethodId} (h : WpC P fl w U) : WpC P fl w (U.calling g mk a) :=
  ⟨h.1, h.2.1, va_K.moved (Vm.Alike.refl U.vm) h.2.2.1, h.2.2.2.1.same rfl rfl, va_AO.moved (Vm.Alike.refl U.vm) h.2.2.2.2⟩
theorem SC.W {P : Pl} {s : State} {fl : Nat → Nat → Bool} {w : Wo} {H : Heap} {locs : List Loc} (hF : Fc P s) (h : SC P s fl w H locs) {U : State} (hU : U.heap = H) (hW : s.WarmedH U.vm) : WpC P fl w U := by
  subst hU
  exact ⟨Nat.le_trans hF.1 h.2.1, h.1, va_K.moved hW.alike hF.2.1, hF.2.2.1.warm hW h.2.2.1, va_AO.moved hW.alike hF.2.2.2.2⟩
theorem WpC.fx {P : Pl} {fl : Nat → Nat → Bool} {w : Wo} {s : State} (h : WpC P fl w s) (ha : Up P) : Fc P s ∧ SC P s fl w s.heap [] := ⟨⟨h.1, h.2.2.1, h.2.2.2.1, ha, h.2.2.2.2⟩, h.2.1, va_S.rf⟩
/-- a world under construction whose references are all set -/
theorem SC.st {P : Pl} {s : State} {fl : Nat → Nat → Bool} {w : Wo} {H : Heap} {locs : List Loc} (h : SC P s fl w H locs) (hf : ∀ j, j < P.2.2.2.1 → cec fl P.2.1 P.2.2.1 w j = ce P.2.1 P.2.2.1 w j) : St P s w H locs := by
  refine ⟨?_, h.2⟩
  rw [← wc_wl hf]
  exact h.1.1
/-- a constructor: the world ahead and behind -/
abbrev CtC (l : Launch) (P : Pl) (y : MethodName) (b : ByteArray) (mL d mc ms : Nat) (As : List Value) (fl : Nat → Nat → Bool) (w : Wo) (P' : Pl) (fl' : Nat → Nat → Bool) (w' : Wo) : Prop :=
  Met l y (wsU y b mL none) (rmU d mc ms) (va_Pc As (WpC P fl w)) (va_Qv (fun (u : Wo) => u = w') (fun u t => WqC P' fl' u t) (Ab P.2.2.2.2.1)) mc ms (Ab P.2.2.2.2.1)
def dv : Nat → Value
  | 0 => .int 0
  | 1 => .long 0
  | _ => .null
section VKS
variable {l : Launch} {P : Pl} {y : MethodName} {b : ByteArray} {nL : Nat} {ret : Option FieldType} {d mc ms : Nat} {As : List Value} {w : Wo} {fl : Nat → Nat → Bool}
variable {Qc : Array Value → State → Outcome → State → Prop} {free : Addr → Prop}
theorem vk_met (hA : Up P) (hpl : plainName y.cls = true) (hlen : (lg_sl As).length ≤ nL)
    (body : ∀ (p : Program) (e : Env) (s : State) (m : MethodId) (args : Array Value) (below : List Frame) (meth : Method) (c : Code) (ls : Array Slot), CallFix p m c b nL s args (wsU y b nL ret) y.cls → Fc P s → SC P s fl w s.heap [] → lv_has ls nL (lv_args 0 As) → meth.sig.returnType = ret → meth.locks = false → meth.name = y.name →
      W p l e (rmU d mc ms) s m args below meth c s.heap [] 0 0 (MQ below Qc args s mc ms free) (F0 m 0 ls [])) :
    Met l y (wsU y b nL ret) (rmU d mc ms) (va_Pc As (WpC P fl w)) Qc mc ms free := by
  refine Met.ofW (cc := b) (maxL := nL) (ret := ret) hpl rfl ?_
  intro p e s m args below meth c s₁ B hml hv
  obtain ⟨rfl, hW⟩ := hv
  obtain ⟨hF, hP⟩ := hW.fx hA
  rw [lg_entry_eq]
  exact body p e s m _ below meth c _ ⟨B.exec, B.bytes, hml, findClass_of_methodNamed B.named, atoms_spec (ws := wsU y b nL ret) B.pre⟩ hF hP (lv_entry As hlen) B.returns B.notSynchronized (name_of_methodNamed B.named B.method).1
end VKS
section VKR
variable {p : Program} {l : Launch} {e : Env} {R : Room} {s : State} {m : MethodId} {args : Array Value} {below : List Frame} {meth : Method} {c : Code} {H : Heap} {locs : List Loc} {cells slots : Nat} {Q : State → Prop}
variable {cc b : ByteArray} {pc nL mL : Nat} {ls : Array Slot} {rest As st0 : List Value} {own C host : String} {Ts : List Cond} {P P' : Pl} {w w' : Wo} {fl fl' : Nat → Nat → Bool} {T : u_T} {N ci k index n d mc ms : Nat} {c0 : Cond} {y : MethodName}
theorem vk_ret (S : CallFix p m c cc nL s args Ts own) (hP : SC P s fl w H locs) (hr : meth.sig.returnType = none) (hlocks : meth.locks = false) (hdg : decode cc pc = .ok (.return_, 1)) :
    W p l e R s m args below meth c H locs cells slots (MQ below (va_Qv (fun (u : Wo) => u = w) (fun u t => WqC P fl u t) (Ab P.2.2.2.2.1)) args s cells slots (Ab P.2.2.2.2.1)) (F0 m pc ls []) :=
  W.vret S.1 S.2.1 hr (fun t ht _ => ⟨⟨w, rfl, rfl, by show va_P _ _ _ t.heap ∧ t.heap.size = _; rw [ht]; exact hP.1⟩, hP.2.F ht⟩) hP.2.2.2 hdg hlocks
theorem vk_obj (S : CallFix p m c cc nL s args (c0 :: ALLW) own) (hlink : Cond.methodLink own index Lib.objectInit ∈ ALLW) (hinst : Cond.instanceMethod Lib.objectInit ∈ ALLW) (hcode : Cond.code Lib.objectInit ⟨#[0xb1]⟩ 1 none ∈ ALLW) (hsize : ls.size = nL) {a : Addr} (hdg : decode cc pc = .ok (.invokespecial index, 3)) (hfr : 1 ≤ R.frames) (hlo : (rest.map fun v => v.category).sum + 12 ≤ R.locals)
    (kk : W p l e R s m args below meth c H locs cells slots Q (F0 m (pc + 3) ls rest)) : W p l e R s m args below meth c H locs cells slots Q (F0 m pc ls (.ref a :: rest)) :=
  W.objInit S.1 S.2.1 S.2.2.2.1 (S.2.2.2.2 _ (List.mem_cons_of_mem _ hlink)) (S.2.2.2.2 _ (List.mem_cons_of_mem _ hinst)) (S.2.2.2.2 _ (List.mem_cons_of_mem _ hcode)) rfl (hsize.trans S.2.2.1.symm) rfl hdg hfr (by simpa using hlo) kk
/-- a new object -/
theorem vk_new (S : CallFix p m c cc nL s args (c0 :: Ts) own) (hF : Fc P s) (hP : SC P s fl w H locs) (hn : P.2.2.2.1 = n) (hs : shp n = (ci, 0)) (hc7 : ci < 7) (hc : vc[ci]? = some (C, T, N)) (hin : ∀ w ∈ u_ws C T N, w ∈ c0 :: Ts) (ty : Nat → FieldType) (hty : ∀ k, k < N → parseFieldDescriptor (T k).2.2.1 = some (ty k)) (hdf : ∀ j, j < N → defaultValue (ty j) = vp_V ((kds ci).map dv) j)
    (hz : ∀ k, gI w n k = 0 ∧ gL w n k = 0) (hz3 : (List.range (kds ci).length).all (fun k => (kds ci)[k]? != some 2 || !fl n k) = true) (hcl : Cond.classLink own index C ∈ Ts) (hinst : Cond.instantiable C N ∈ Ts) (hini : Cond.initialized C ∈ Ts) (hup : P.2.1 (n + 1) = P.2.1 n + 1) (hcells : cells + 1 ≤ R.cells) (hslots : slots + N ≤ R.slots) (hdg : decode cc pc = .ok (.new index, 3))
    (kk : ∀ (H1 : Heap), SC (Pn P (n + 1)) s fl w H1 locs → W p l e R s m args below meth c H1 locs (cells + 1) (slots + N) Q (F0 m (pc + 3) ls (.ref (P.2.1 n) :: rest))) : W p l e R s m args below meth c H locs cells slots Q (F0 m pc ls rest) := by
  subst hn
  have hKn := hF.2.1.1 ci _ hc
  have hts : ∀ w ∈ c0 :: Ts, w.before args s = true := S.2.2.2.2
  refine W.newcK S.1 S.2.1 S.2.2.2.1 (hts _ (List.mem_cons_of_mem _ hcl)) (hts _ (List.mem_cons_of_mem _ hinst)) (hts _ (List.mem_cons_of_mem _ hini)) rfl hdg hcells hslots hKn.2.1 rfl fun H1 kC hkC e1 z1 o1 => ?_
  have hsz : H.size = P.2.1 P.2.2.2.1 := hP.1.2
  have hk : ∀ (k : Nat) (x : Nat × va_E), (wc fl P.2.1 P.2.2.1 P.2.2.2.1 w)[k]? = some x → H1[x.1]? = H[x.1]? := fun k x hx => o1 x.1 ((hP.1.1 k x hx).lt)
  have ef : (kds ci).mapIdx (fun k q => vqc fl P.2.1 w P.2.2.2.1 k q) = (kds ci).map dv := by
    apply List.ext_getElem?
    intro j
    rw [List.getElem?_mapIdx, List.getElem?_map]
    cases hq : (kds ci)[j]? with
    | none => rfl
    | some x =>
      obtain ⟨z1, z2⟩ := hz j
      show some (vqc fl P.2.1 w P.2.2.2.1 j x) = some (dv x)
      congr 1
      unfold vqc
      by_cases h2 : x = 2
      · subst h2
        have z4 := List.all_eq_true.mp hz3 j (List.mem_range.mpr (List.getElem?_eq_some_iff.mp hq).1)
        have z3 : fl P.2.2.2.1 j = false := by simpa [hq] using z4
        simp [z3, dv]
      · rw [if_neg h2]
        match x, h2 with
        | 0, _ => simp [vq, dv, z1]
        | 1, _ => simp [vq, dv, z2]
        | 2, h2 => exact absurd rfl h2
        | x + 3, _ => simp [vq, dv, z1]
  rw [hsz]
  refine kk H1 ⟨⟨?_, ?_⟩, ⟨Nat.le_trans hP.2.1 (by omega), fun x h1 h2 => (o1 x (by have := hP.2.1; omega)).trans (hP.2.2.1 x h1 h2), hP.2.2.2⟩⟩
  · show va_P P.1 vc (wc fl P.2.1 P.2.2.1 (P.2.2.2.1 + 1) w) H1
    rw [wc_succ]
    refine (hP.1.1.kept hk).app (fun k x hx => ?_)
    have hz : k < 1 := (List.getElem?_eq_some_iff.mp hx).1
    rw [show k = 0 by omega] at hx
    cases hx
    rw [cec_obj (by rw [hs]) hc7, ef]
    have hb := (u_born ty hts hin hKn hkC e1 hty).to hdf
    rw [hsz] at hb
    exact ⟨_, hc, hb⟩
  · show H1.size = P.2.1 (P.2.2.2.1 + 1)
    rw [z1, hsz, hup]
/-- a new row of int, long, char or double -/
theorem vk_newa {t : Nat} {atype : ArrayType} {ty : FieldType} {v : Int32} {K : Nat} (S : CallFix p m c cc nL s args (c0 :: Ts) own) (hF : Fc P s) (hP : SC P s fl w H locs) (hn : P.2.2.2.1 = n) (hs : shp n = (10 + t, K)) (ht : (tyl P.2.2.1)[t]? = some (P.2.2.1 t, ty)) (hty : newarray.typeOf atype = ty)
    {a : vp_A} (hce : cec fl P.2.1 P.2.2.1 w n = .inl (P.2.2.1 t, a) ∧ vp_cell (P.2.2.1 t) a = arrV (P.2.2.1 t) K (fun _ => defaultValue ty)) (hra : ∀ U, va_RA U (P.2.2.1 t) ty → U.vm.findClass ("[" ++ ty.toString) = some (P.2.2.1 t))
    (harr : Cond.arrayClass ty ∈ Ts) (hup : P.2.1 (n + 1) = P.2.1 n + 1) (hv0 : ¬ v < 0) (hvN : v.toNatClampNeg = K) (hbytes : K * componentBytes ty ≤ 536870912) (hcells : cells + 1 ≤ R.cells) (hslots : slots + K ≤ R.slots) (hdg : decode cc pc = .ok (.newarray atype, 2))
    (kk : ∀ (H1 : Heap), SC (Pn P (n + 1)) s fl w H1 locs → W p l e R s m args below meth c H1 locs (cells + 1) (slots + K) Q (F0 m (pc + 2) ls (.ref (P.2.1 n) :: rest))) : W p l e R s m args below meth c H locs cells slots Q (F0 m pc ls (.int v :: rest)) := by
  subst hn
  subst hty
  have hsz : H.size = P.2.1 P.2.2.2.1 := hP.1.2
  refine va_newaK S.1 S.2.1 (S.2.2.2.2 _ (List.mem_cons_of_mem _ harr)) rfl hdg rfl hv0 hvN hbytes hcells hslots hsz fun H1 cA e1 z1 o1 hAr hNm => ?_
  have hcA : cA = P.2.2.1 t := Option.some.inj (hNm.symm.trans (hra s (hF.2.1.2 t _ ht).2))
  subst hcA
  have hk : ∀ (k : Nat) (x : Nat × va_E), (wc fl P.2.1 P.2.2.1 P.2.2.2.1 w)[k]? = some x → H1[x.1]? = H[x.1]? := fun k x hx => o1 x.1 (by have := (hP.1.1 k x hx).lt; omega)
  refine kk H1 ⟨⟨?_, ?_⟩, ⟨Nat.le_trans hP.2.1 (by omega), fun x h1 h2 => (o1 x (by have := hP.2.1; omega)).trans (hP.2.2.1 x h1 h2), hP.2.2.2⟩⟩
  · show va_P P.1 vc (wc fl P.2.1 P.2.2.1 (P.2.2.2.1 + 1) w) H1
    rw [wc_succ]
    refine (hP.1.1.kept hk).app (fun k x hx => ?_)
    have hz : k < 1 := (List.getElem?_eq_some_iff.mp hx).1
    rw [show k = 0 by omega] at hx
    cases hx
    rw [hce.1]
    show H1[P.2.1 P.2.2.2.1]? = some (vp_cell (P.2.2.1 t) a)
    rw [e1]
    exact congrArg some hce.2.symm
  · show H1.size = P.2.1 (P.2.2.2.1 + 1)
    rw [z1, hup]
/-- the ring: a new row of boards, all null -/
theorem vk_newq {v : Int32} {K : Nat} (S : CallFix p m c cc nL s args (c0 :: Ts) own) (hF : Fc P s) (hP : SC P s fl w H locs) (hn : P.2.2.2.1 = n) (hs : shp n = (14, K)) (hz : ∀ k, k < K → fl n k = false) (hcl : Cond.classLink own index "VowelTorus$Board" ∈ Ts)
    (hup : P.2.1 (n + 1) = P.2.1 n + 1) (hv0 : ¬ v < 0) (hvN : v.toNatClampNeg = K) (hbytes : K * 4 ≤ 536870912) (hcells : cells + 1 ≤ R.cells) (hslots : slots + K ≤ R.slots) (hdg : decode cc pc = .ok (.anewarray index, 3))
    (kk : ∀ (H1 : Heap), SC (Pn P (n + 1)) s fl w H1 locs → W p l e R s m args below meth c H1 locs (cells + 1) (slots + K) Q (F0 m (pc + 3) ls (.ref (P.2.1 n) :: rest))) : W p l e R s m args below meth c H locs cells slots Q (F0 m pc ls (.int v :: rest)) := by
  subst hn
  subst hvN
  have hsz : H.size = P.2.1 P.2.2.2.1 := hP.1.2
  refine W.anew S.1 S.2.1 S.2.2.2.1 (S.2.2.2.2 _ (List.mem_cons_of_mem _ hcl)) (va_AO.use hF.2.2.2.2) rfl hdg rfl hv0 hbytes hcells hslots fun cA kA comp f1 f2 f3 f4 => ?_
  have hcA : cA = P.2.2.1 4 := by
    obtain ⟨kA2, comp2, g1, g2, g3, g4⟩ := (hF.2.1.2 4 _ rfl).2
    exact Option.some.inj (f1.symm.trans g4)
  subst hcA
  generalize hH1 : H.push ({ cls := P.2.2.1 4, slots := Array.replicate v.toNatClampNeg .null, vm := .none } : Cell) = H1
  have z1 : H1.size = H.size + 1 := by rw [← hH1, Array.size_push]
  have e1 : H1[H.size]? = some (arrV (P.2.2.1 4) v.toNatClampNeg (fun _ => .null)) := by rw [← hH1, Array.getElem?_push_size, ← arrV_new]
  have o1 : ∀ q : Nat, q < H.size → H1[q]? = H[q]? := fun q hq => by rw [← hH1, Array.getElem?_push, if_neg (Nat.ne_of_lt hq)]
  have hk : ∀ (k : Nat) (x : Nat × va_E), (wc fl P.2.1 P.2.2.1 P.2.2.2.1 w)[k]? = some x → H1[x.1]? = H[x.1]? := fun k x hx => o1 x.1 ((hP.1.1 k x hx).lt)
  rw [hsz]
  refine kk H1 ⟨⟨?_, ?_⟩, ⟨Nat.le_trans hP.2.1 (by omega), fun x h1 h2 => (o1 x (by have := hP.2.1; omega)).trans (hP.2.2.1 x h1 h2), hP.2.2.2⟩⟩
  · show va_P P.1 vc (wc fl P.2.1 P.2.2.1 (P.2.2.2.1 + 1) w) H1
    rw [wc_succ]
    refine (hP.1.1.kept hk).app (fun k x hx => ?_)
    have hz9 : k < 1 := (List.getElem?_eq_some_iff.mp hx).1
    rw [show k = 0 by omega] at hx
    cases hx
    have ec : cec fl P.2.1 P.2.2.1 w P.2.2.2.1 = .inl (P.2.2.1 4, v.toNatClampNeg, .inr (.inr (.inr (.inr (fun j => if fl P.2.2.2.1 j = true then some (P.2.1 (rf P.2.2.2.1 j)) else none))))) := by
      unfold cec
      rw [hs]
      rfl
    rw [ec]
    show H1[P.2.1 P.2.2.2.1]? = some (vp_cell (P.2.2.1 4) _)
    rw [← hsz, e1, vp_cell_q]
    congr 1
    unfold arrV
    congr 1
    apply Array.ext
    · simp
    · intro i h1 h2
      have h3 : i < v.toNatClampNeg := by simpa using h1
      simp [hz i h3, va_rf]
  · show H1.size = P.2.1 (P.2.2.2.1 + 1)
    rw [z1, hsz, hup]
end VKR
