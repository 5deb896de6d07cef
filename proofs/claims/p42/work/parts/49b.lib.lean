/-! OBJECTS SIDE BY SIDE -/
abbrev A0 (n0 : Nat) : Nat → Prop := Ab (0, 0, n0)
theorem A0_iff {n0 q : Nat} : A0 n0 q ↔ n0 ≤ q := ⟨fun h => h.elim (fun h => absurd h.2 (Nat.not_lt_zero _)) id, Or.inr⟩
abbrev Po (D : va_G) (cA : Nat → ClassId) (sa : Nat → Nat) (lo top : Nat) : Pl := (D, fun k => lo + k, cA, 26, (lo, lo + 26, top), sa)
abbrev Pb (D : va_G) (cA : Nat → ClassId) (sa : Nat → Nat) (n lo : Nat) : Pl := (D, fun k => lo + k, cA, n, (0, 0, lo), sa)
def Oc (D : va_G) (cA : Nat → ClassId) (lo : Nat) (w : Wo) (H : Heap) : Prop := va_P D vc (wl (fun k => lo + k) cA 26 w) H
section OBJ
variable {D : va_G} {cA : Nat → ClassId} {sa : Nat → Nat} {lo lo' tp n0 : Nat} {w w' : Wo} {H H1 : Heap} {s U : State} {locs : List Loc}
theorem Po_adr : Adr (Po D cA sa lo tp) := ⟨fun _ _ _ _ e => Nat.add_left_cancel (show lo + _ = lo + _ from e), fun i hi => Or.inl ⟨Nat.le_add_right _ _, Nat.add_lt_add_left (show i < 26 from hi) _⟩⟩
theorem Pb_adr {n : Nat} : Adr (Pb D cA sa n lo) := ⟨fun _ _ _ _ e => Nat.add_left_cancel (show lo + _ = lo + _ from e), fun i _ => Or.inr (Nat.le_add_right _ _)⟩
theorem Pb_up {n : Nat} : Up (Pb D cA sa n lo) := ⟨fun _ _ h => Nat.add_lt_add_left h _, fun i => Or.inr (Nat.le_add_right _ _)⟩
theorem Oc.lt (h : Oc D cA lo w H) {k : Nat} (hk : k < 26) : lo + k < H.size := (h k _ (wl_at hk)).lt
theorem Oc.top (h : Oc D cA lo w H) : lo + 26 ≤ H.size := by
  have := h.lt (k := 25) (by decide)
  omega
theorem Oc.kept9 (h : Oc D cA lo' w H) (hk : ∀ k, k < 26 → H1[lo' + k]? = H[lo' + k]?) : Oc D cA lo' w H1 := va_P.kept h (fun k q hq => by
  obtain ⟨h1, rfl⟩ := wl_lt hq
  exact hk k h1)
theorem Oc.kept (h : Oc D cA lo' w H) (hd : lo' + 26 ≤ lo ∨ lo + 26 ≤ lo') (hk : ∀ q : Nat, q < H.size → ¬ Ab (lo, lo + 26, H.size) q → H1[q]? = H[q]?) : Oc D cA lo' w H1 := h.kept9 (fun k hk9 => by
  have h1 := h.lt hk9
  refine hk _ h1 ?_
  rintro (⟨a, b⟩ | c)
  · have a : lo ≤ lo' + k := a
    have b : lo' + k < lo + 26 := b
    omega
  · have c : H.size ≤ lo' + k := c
    omega)
theorem Ex.sub {z z' : Nz} (h : Ex z sa s) (hz : ∀ q, Ab z' q → Ab z q) : Ex z' sa s := ⟨h.1.narrow hz, h.2.1.narrow hz, h.2.2⟩
theorem Ab_A0 (hlo : n0 ≤ lo) (htop : n0 ≤ tp) : ∀ q, Ab (lo, lo + 26, tp) q → A0 n0 q := fun q h => Or.inr (by
  rcases h with ⟨a, _⟩ | a
  · exact Nat.le_trans hlo a
  · exact Nat.le_trans htop a)
theorem Oc.Wp (hK : va_K D vc (tyl cA) s) (hEx : Ex (0, 0, s.heap.size) sa s) (hS : va_S (A0 s.heap.size) s.heap H locs) (hlo : s.heap.size ≤ lo) (h : Oc D cA lo w H) (hU : U.heap = H) (hW : s.WarmedH U.vm) : Wp (Po D cA sa lo H.size) w U := by
  subst hU
  exact ⟨Nat.le_refl _, h, va_K.moved hW.alike hK, (hEx.warm hW hS.2.1).sub (Ab_A0 hlo hS.1)⟩
theorem Oc.recv (hK : va_K D vc (tyl cA) s) (h : Oc D cA lo w H) : ∃ cell : Cell, H[lo]? = some cell ∧ cell.vm.isStatics = false ∧ s.vm.findClass RX5 = some cell.cls := by
  have h1 := va_recv (q := (RX5, TX5, 13)) (ci := 5) (a := lo + 0) hK h rfl (show (wl (fun k => lo + k) cA 26 w)[0]? = some (lo + 0, .inr (5, _)) by rw [wl_at (by decide), ce_obj (h := 0) (c := 5) rfl (by decide)])
  exact h1
/-- two objects -/
def Two (D : va_G) (cA : Nat → ClassId) (s : State) (lx ly : Nat) (wx wy : Wo) (H : Heap) (locs : List Loc) : Prop := s.heap.size ≤ lx ∧ lx + 26 ≤ ly ∧ Oc D cA lx wx H ∧ Oc D cA ly wy H ∧ va_S (A0 s.heap.size) s.heap H locs
end OBJ
section LL
variable {p : Program} {l : Launch} {e : Env} {R : Room} {s : State} {m : MethodId} {args : Array Value} {below : List Frame} {meth : Method} {c : Code} {H : Heap} {locs : List Loc} {cells slots : Nat} {Q : State → Prop}
variable {cc b : ByteArray} {pc nL mL : Nat} {ls : Array Slot} {rest st0 As : List Value} {own : String} {n d index mc : Nat} {c0 : Cond} {y : MethodName} {ret : Option FieldType} {aa : Array Value}
variable {D : va_G} {cA : Nat → ClassId} {sa : Nat → Nat} {lx ly : Nat} {wx wy w' : Wo} {hh : List (Nat × Nat × Nat × Nat)}
theorem lx_i {v : Int32} {ms : Nat} (hL : Two D cA s lx ly wx wy H locs) (hr : va_Run p l e R s m args below meth c H locs cells slots mc ms (F0 m pc ls st0) rest (va_Qi (fun (r : Int32) (u : Wo) => r = v ∧ u = w' ∧ okR ret v) (Wq (Po D cA sa lx H.size)) (Ab (lx, lx + 26, H.size)) aa) (Ab (lx, lx + 26, H.size)))
    (kk : ∀ (H1 : Heap) (locs1 : List Loc), okR ret v → Two D cA s lx ly w' wy H1 locs1 → W p l e R s m args below meth c H1 locs1 (cells + mc) (slots + ms) Q (F0 m (pc + 3) ls (.int v :: rest))) : W p l e R s m args below meth c H locs cells slots Q (F0 m pc ls st0) := by
  obtain ⟨h1, h2, h3, h4, h5⟩ := hL
  refine va_calli hr h5 (fun q _ h => Ab_A0 h1 h5.1 q h) (Ab_A0 h1 h5.1) (fun r u t H1 locs1 ht _ hw hB hz hk hS => ?_)
  obtain ⟨rfl, rfl, ho⟩ := hw
  subst ht
  exact kk _ _ ho ⟨h1, h2, hB, h4.kept (Or.inr h2) hk, hS⟩
theorem ly_i {v : Int32} {ms : Nat} (hL : Two D cA s lx ly wx wy H locs) (hr : va_Run p l e R s m args below meth c H locs cells slots mc ms (F0 m pc ls st0) rest (va_Qi (fun (r : Int32) (u : Wo) => r = v ∧ u = w' ∧ okR ret v) (Wq (Po D cA sa ly H.size)) (Ab (ly, ly + 26, H.size)) aa) (Ab (ly, ly + 26, H.size)))
    (kk : ∀ (H1 : Heap) (locs1 : List Loc), okR ret v → Two D cA s lx ly wx w' H1 locs1 → W p l e R s m args below meth c H1 locs1 (cells + mc) (slots + ms) Q (F0 m (pc + 3) ls (.int v :: rest))) : W p l e R s m args below meth c H locs cells slots Q (F0 m pc ls st0) := by
  obtain ⟨h1, h2, h3, h4, h5⟩ := hL
  have hly : s.heap.size ≤ ly := by omega
  refine va_calli hr h5 (fun q _ h => Ab_A0 hly h5.1 q h) (Ab_A0 hly h5.1) (fun r u t H1 locs1 ht _ hw hB hz hk hS => ?_)
  obtain ⟨rfl, rfl, ho⟩ := hw
  subst ht
  exact kk _ _ ho ⟨h1, h2, h3.kept (Or.inl h2) hk, hB, hS⟩
theorem lx_v (hL : Two D cA s lx ly wx wy H locs) (hr : va_Run p l e R s m args below meth c H locs cells slots 0 0 (F0 m pc ls st0) rest (va_Qv (fun (u : Wo) => u = w') (Wq (Po D cA sa lx H.size)) (Ab (lx, lx + 26, H.size)) aa) (Ab (lx, lx + 26, H.size)))
    (kk : ∀ (H1 : Heap) (locs1 : List Loc), Two D cA s lx ly w' wy H1 locs1 → W p l e R s m args below meth c H1 locs1 cells slots Q (F0 m (pc + 3) ls rest)) : W p l e R s m args below meth c H locs cells slots Q (F0 m pc ls st0) := by
  obtain ⟨h1, h2, h3, h4, h5⟩ := hL
  refine va_callv hr h5 (fun q _ h => Ab_A0 h1 h5.1 q h) (Ab_A0 h1 h5.1) (fun u t H1 locs1 ht _ hw hB hz hk hS => ?_)
  subst hw
  subst ht
  exact kk _ _ ⟨h1, h2, hB, h4.kept (Or.inr h2) hk, hS⟩
theorem ly_f {v : UInt32} (hL : Two D cA s lx ly wx wy H locs) (hr : va_Run p l e R s m args below meth c H locs cells slots 0 0 (F0 m pc ls st0) rest (va_Qf (fun (r : UInt32) (u : Wo) => r = v ∧ u = w') (Wq (Po D cA sa ly H.size)) (Ab (ly, ly + 26, H.size)) aa) (Ab (ly, ly + 26, H.size)))
    (kk : ∀ (H1 : Heap) (locs1 : List Loc), Two D cA s lx ly wx w' H1 locs1 → W p l e R s m args below meth c H1 locs1 cells slots Q (F0 m (pc + 3) ls (.float v :: rest))) : W p l e R s m args below meth c H locs cells slots Q (F0 m pc ls st0) := by
  obtain ⟨h1, h2, h3, h4, h5⟩ := hL
  have hly : s.heap.size ≤ ly := by omega
  refine va_callf hr h5 (fun q _ h => Ab_A0 hly h5.1 q h) (Ab_A0 hly h5.1) (fun r u t H1 locs1 ht _ hw hB hz hk hS => ?_)
  obtain ⟨rfl, rfl⟩ := hw
  subst ht
  exact kk _ _ ⟨h1, h2, h3.kept (Or.inl h2) hk, hB, hS⟩
theorem ly_d {v : UInt64} (hL : Two D cA s lx ly wx wy H locs) (hr : va_Run p l e R s m args below meth c H locs cells slots 0 0 (F0 m pc ls st0) rest (va_Qd (fun (r : UInt64) (u : Wo) => r = v ∧ u = w') (Wq (Po D cA sa ly H.size)) (Ab (ly, ly + 26, H.size)) aa) (Ab (ly, ly + 26, H.size)))
    (kk : ∀ (H1 : Heap) (locs1 : List Loc), Two D cA s lx ly wx w' H1 locs1 → W p l e R s m args below meth c H1 locs1 cells slots Q (F0 m (pc + 3) ls (.double v :: rest))) : W p l e R s m args below meth c H locs cells slots Q (F0 m pc ls st0) := by
  obtain ⟨h1, h2, h3, h4, h5⟩ := hL
  have hly : s.heap.size ≤ ly := by omega
  refine va_calld hr h5 (fun q _ h => Ab_A0 hly h5.1 q h) (Ab_A0 hly h5.1) (fun r u t H1 locs1 ht _ hw hB hz hk hS => ?_)
  obtain ⟨rfl, rfl⟩ := hw
  subst ht
  exact kk _ _ ⟨h1, h2, h3.kept (Or.inl h2) hk, hB, hS⟩
/-- a virtual call, by an okV -/
theorem tt_W {C : String} {a : Addr} {B : State → Prop} {Qc : Array Value → State → Outcome → State → Prop} {free : Addr → Prop} {ms : Nat} (S : CallFix p m c cc nL s args (c0 :: ALLW) own) (hr : ∃ cell : Cell, H[a]? = some cell ∧ cell.vm.isStatics = false ∧ s.vm.findClass C = some cell.cls) (hB : ∀ U : State, U.heap = H → s.WarmedH U.vm → B U) (hbl : ∀ (U : State) (g : JFrame) (mk : MethodId) (a' : Array Value), B U → B (U.calling g mk a')) (hM : Met l y (wsU y b mL ret) (rmU d mc ms) (va_Pc (.ref a :: As) B) Qc mc ms free) (ok : okV y b mL ret n) (hC : y.cls = C) (hl : Cond.methodLink own index y ∈ ALLW)
    (hR : d + 1 ≤ R.frames ∧ 8 + (mL + 11) + 40 * d ≤ R.locals) (hn : As.length = n) (hsize : ls.size = nL) (hst : st0 = As.reverse ++ .ref a :: rest) (hW : (rest.map fun v => v.category).sum ≤ 8) (hdg : decode cc pc = .ok (.invokevirtual index, 3)) (hf : cells + mc ≤ R.cells ∧ slots + ms ≤ R.slots) :
    va_Run p l e R s m args below meth c H locs cells slots mc ms (F0 m pc ls st0) rest (Qc (Value.ref a :: As).toArray) free := by
  subst hC
  exact tt_V S hr hB hbl hM ⟨ok.1, ok.2.2.1, ok.2.2.2.1, ok.2.2.2.2.1, ok.2.2.2.2.2.1, ok.2.2.2.2.2.2⟩ (S.2.2.2.2 _ (List.mem_cons_of_mem _ ok.2.1)) hl hR hn hsize hst hW hdg hf
section CX
/-- a call on the first, on the second object -/
theorem lx_call {v : Int32} (hK : va_K D vc (tyl cA) s) (hEx : Ex (0, 0, s.heap.size) sa s) (S : CallFix p m c cc nL s args (c0 :: ALLW) own) (hL : Two D cA s lx ly wx wy H locs) (hR : d + 1 ≤ R.frames ∧ 8 + (mL + 11) + 40 * d ≤ R.locals) (hn : As.length = n) (hsize : ls.size = nL) (hW : (rest.map fun v => v.category).sum ≤ 8) (hl : Cond.methodLink own index y ∈ ALLW) (hM : ∀ P : Pl, Adr P → 26 ≤ P.2.2.2.1 → CtI l P y b mL ret d (.ref (P.2.1 0) :: As) wx v w') (ok : okV y b mL ret n) (hC : y.cls = RX5) (hst : st0 = As.reverse ++ .ref lx :: rest) (hdg : decode cc pc = .ok (.invokevirtual index, 3)) (hf : cells + 0 ≤ R.cells ∧ slots + 0 ≤ R.slots)
    (kk : ∀ (H1 : Heap) (locs1 : List Loc), okR ret v → Two D cA s lx ly w' wy H1 locs1 → W p l e R s m args below meth c H1 locs1 cells slots Q (F0 m (pc + 3) ls (.int v :: rest))) : W p l e R s m args below meth c H locs cells slots Q (F0 m pc ls st0) :=
  lx_i hL (tt_W S (hL.2.2.1.recv hK) (fun _ hU hW9 => Oc.Wp hK hEx hL.2.2.2.2 hL.1 hL.2.2.1 hU hW9) (fun _ _ _ _ h => h.blind) (hM (Po D cA sa lx H.size) Po_adr (Nat.le_refl _)) ok hC hl hR hn hsize hst hW hdg hf) kk
theorem ly_call {v : Int32} (hK : va_K D vc (tyl cA) s) (hEx : Ex (0, 0, s.heap.size) sa s) (S : CallFix p m c cc nL s args (c0 :: ALLW) own) (hL : Two D cA s lx ly wx wy H locs) (hR : d + 1 ≤ R.frames ∧ 8 + (mL + 11) + 40 * d ≤ R.locals) (hn : As.length = n) (hsize : ls.size = nL) (hW : (rest.map fun v => v.category).sum ≤ 8) (hl : Cond.methodLink own index y ∈ ALLW) (hM : ∀ P : Pl, Adr P → 26 ≤ P.2.2.2.1 → CtI l P y b mL ret d (.ref (P.2.1 0) :: As) wy v w') (ok : okV y b mL ret n) (hC : y.cls = RX5) (hst : st0 = As.reverse ++ .ref ly :: rest) (hdg : decode cc pc = .ok (.invokevirtual index, 3)) (hf : cells + 0 ≤ R.cells ∧ slots + 0 ≤ R.slots)
    (kk : ∀ (H1 : Heap) (locs1 : List Loc), okR ret v → Two D cA s lx ly wx w' H1 locs1 → W p l e R s m args below meth c H1 locs1 cells slots Q (F0 m (pc + 3) ls (.int v :: rest))) : W p l e R s m args below meth c H locs cells slots Q (F0 m pc ls st0) :=
  ly_i hL (tt_W S (hL.2.2.2.1.recv hK) (fun _ hU hW9 => Oc.Wp hK hEx hL.2.2.2.2 (Nat.le_trans hL.1 (Nat.le_trans (Nat.le_add_right _ _) hL.2.1)) hL.2.2.2.1 hU hW9) (fun _ _ _ _ h => h.blind) (hM (Po D cA sa ly H.size) Po_adr (Nat.le_refl _)) ok hC hl hR hn hsize hst hW hdg hf) kk
theorem ly_callf {v : UInt32} (hK : va_K D vc (tyl cA) s) (hEx : Ex (0, 0, s.heap.size) sa s) (S : CallFix p m c cc nL s args (c0 :: ALLW) own) (hL : Two D cA s lx ly wx wy H locs) (hR : d + 1 ≤ R.frames ∧ 8 + (mL + 11) + 40 * d ≤ R.locals) (hn : As.length = n) (hsize : ls.size = nL) (hW : (rest.map fun v => v.category).sum ≤ 8) (hl : Cond.methodLink own index y ∈ ALLW) (hM : ∀ P : Pl, Adr P → 26 ≤ P.2.2.2.1 → CtF l P y b mL ret d (.ref (P.2.1 0) :: As) wy v w') (ok : okV y b mL ret n) (hC : y.cls = RX5) (hst : st0 = As.reverse ++ .ref ly :: rest) (hdg : decode cc pc = .ok (.invokevirtual index, 3)) (hf : cells + 0 ≤ R.cells ∧ slots + 0 ≤ R.slots)
    (kk : ∀ (H1 : Heap) (locs1 : List Loc), Two D cA s lx ly wx w' H1 locs1 → W p l e R s m args below meth c H1 locs1 cells slots Q (F0 m (pc + 3) ls (.float v :: rest))) : W p l e R s m args below meth c H locs cells slots Q (F0 m pc ls st0) :=
  ly_f hL (tt_W S (hL.2.2.2.1.recv hK) (fun _ hU hW9 => Oc.Wp hK hEx hL.2.2.2.2 (Nat.le_trans hL.1 (Nat.le_trans (Nat.le_add_right _ _) hL.2.1)) hL.2.2.2.1 hU hW9) (fun _ _ _ _ h => h.blind) (hM (Po D cA sa ly H.size) Po_adr (Nat.le_refl _)) ok hC hl hR hn hsize hst hW hdg hf) kk
theorem ly_calld {v : UInt64} (hK : va_K D vc (tyl cA) s) (hEx : Ex (0, 0, s.heap.size) sa s) (S : CallFix p m c cc nL s args (c0 :: ALLW) own) (hL : Two D cA s lx ly wx wy H locs) (hR : d + 1 ≤ R.frames ∧ 8 + (mL + 11) + 40 * d ≤ R.locals) (hn : As.length = n) (hsize : ls.size = nL) (hW : (rest.map fun v => v.category).sum ≤ 8) (hl : Cond.methodLink own index y ∈ ALLW) (hM : ∀ P : Pl, Adr P → 26 ≤ P.2.2.2.1 → CtD l P y b mL ret d (.ref (P.2.1 0) :: As) wy v w') (ok : okV y b mL ret n) (hC : y.cls = RX5) (hst : st0 = As.reverse ++ .ref ly :: rest) (hdg : decode cc pc = .ok (.invokevirtual index, 3)) (hf : cells + 0 ≤ R.cells ∧ slots + 0 ≤ R.slots)
    (kk : ∀ (H1 : Heap) (locs1 : List Loc), Two D cA s lx ly wx w' H1 locs1 → W p l e R s m args below meth c H1 locs1 cells slots Q (F0 m (pc + 3) ls (.double v :: rest))) : W p l e R s m args below meth c H locs cells slots Q (F0 m pc ls st0) :=
  ly_d hL (tt_W S (hL.2.2.2.1.recv hK) (fun _ hU hW9 => Oc.Wp hK hEx hL.2.2.2.2 (Nat.le_trans hL.1 (Nat.le_trans (Nat.le_add_right _ _) hL.2.1)) hL.2.2.2.1 hU hW9) (fun _ _ _ _ h => h.blind) (hM (Po D cA sa ly H.size) Po_adr (Nat.le_refl _)) ok hC hl hR hn hsize hst hW hdg hf) kk
/-- the law's own static methods -/
theorem lx_stat {v : Int32} (hK : va_K D vc (tyl cA) s) (hEx : Ex (0, 0, s.heap.size) sa s) (S : CallFix p m c cc nL s args (c0 :: ALLW) own) (hL : Two D cA s lx ly wx wy H locs) (hR : d + 1 ≤ R.frames ∧ 8 + (mL + 11) + 40 * d ≤ R.locals) (hn : As.length = n) (hsize : ls.size = nL) (hW : (rest.map fun v => v.category).sum ≤ 8) (hl : Cond.methodLink own index y ∈ ALLW) (hM : ∀ P : Pl, Adr P → 26 ≤ P.2.2.2.1 → CtI l P y b mL ret d (.ref (P.2.1 0) :: As) wx v w') (ok : okS y b mL ret (n + 1)) (hst : st0 = As.reverse ++ .ref lx :: rest) (hdg : decode cc pc = .ok (.invokestatic index, 3)) (hf : cells + 0 ≤ R.cells ∧ slots + 0 ≤ R.slots)
    (kk : ∀ (H1 : Heap) (locs1 : List Loc), okR ret v → Two D cA s lx ly w' wy H1 locs1 → W p l e R s m args below meth c H1 locs1 cells slots Q (F0 m (pc + 3) ls (.int v :: rest))) : W p l e R s m args below meth c H locs cells slots Q (F0 m pc ls st0) :=
  lx_i hL (tt_S (As := .ref lx :: As) S (fun _ hU hW9 => Oc.Wp hK hEx hL.2.2.2.2 hL.1 hL.2.2.1 hU hW9) (fun _ _ _ _ h => h.blind) (hM (Po D cA sa lx H.size) Po_adr (Nat.le_refl _)) ok hl hR (by simp [hn]) hsize (by rw [hst]; simp) hW hdg hf) kk
theorem ly_stat {v : Int32} (hK : va_K D vc (tyl cA) s) (hEx : Ex (0, 0, s.heap.size) sa s) (S : CallFix p m c cc nL s args (c0 :: ALLW) own) (hL : Two D cA s lx ly wx wy H locs) (hR : d + 1 ≤ R.frames ∧ 8 + (mL + 11) + 40 * d ≤ R.locals) (hn : As.length = n) (hsize : ls.size = nL) (hW : (rest.map fun v => v.category).sum ≤ 8) (hl : Cond.methodLink own index y ∈ ALLW) (hM : ∀ P : Pl, Adr P → 26 ≤ P.2.2.2.1 → CtI l P y b mL ret d (.ref (P.2.1 0) :: As) wy v w') (ok : okS y b mL ret (n + 1)) (hst : st0 = As.reverse ++ .ref ly :: rest) (hdg : decode cc pc = .ok (.invokestatic index, 3)) (hf : cells + 0 ≤ R.cells ∧ slots + 0 ≤ R.slots)
    (kk : ∀ (H1 : Heap) (locs1 : List Loc), okR ret v → Two D cA s lx ly wx w' H1 locs1 → W p l e R s m args below meth c H1 locs1 cells slots Q (F0 m (pc + 3) ls (.int v :: rest))) : W p l e R s m args below meth c H locs cells slots Q (F0 m pc ls st0) :=
  ly_i hL (tt_S (As := .ref ly :: As) S (fun _ hU hW9 => Oc.Wp hK hEx hL.2.2.2.2 (Nat.le_trans hL.1 (Nat.le_trans (Nat.le_add_right _ _) hL.2.1)) hL.2.2.2.1 hU hW9) (fun _ _ _ _ h => h.blind) (hM (Po D cA sa ly H.size) Po_adr (Nat.le_refl _)) ok hl hR (by simp [hn]) hsize (by rw [hst]; simp) hW hdg hf) kk
/-- those with an exception table -/
theorem lx_tab {v : Int32} (hK : va_K D vc (tyl cA) s) (hEx : Ex (0, 0, s.heap.size) sa s) (S : CallFix p m c cc nL s args (c0 :: ALLW) own) (hL : Two D cA s lx ly wx wy H locs) (hR : d + 1 ≤ R.frames ∧ 8 + (mL + 11) + 40 * d ≤ R.locals) (hn : As.length = n) (hsize : ls.size = nL) (hW : (rest.map fun v => v.category).sum ≤ 8) (hl : Cond.methodLink own index y ∈ ALLW) (hM : ∀ P : Pl, Adr P → 26 ≤ P.2.2.2.1 → CtW l P y b mL hh d mc (.ref (P.2.1 0) :: As) wx v w') (ok : okW y b mL hh (n + 1)) (hst : st0 = As.reverse ++ .ref lx :: rest) (hdg : decode cc pc = .ok (.invokestatic index, 3)) (hf : cells + mc ≤ R.cells ∧ slots + 6 * mc ≤ R.slots)
    (kk : ∀ (H1 : Heap) (locs1 : List Loc), okR (some .int) v → Two D cA s lx ly w' wy H1 locs1 → W p l e R s m args below meth c H1 locs1 (cells + mc) (slots + 6 * mc) Q (F0 m (pc + 3) ls (.int v :: rest))) : W p l e R s m args below meth c H locs cells slots Q (F0 m pc ls st0) :=
  lx_i hL (vx_runSW (As := .ref lx :: As) S (hM (Po D cA sa lx H.size) Po_adr (Nat.le_refl _)) (vx_cwSW (n + 1) S.2.2.2.2 (consG hl (consG ok.1 (consG ok.2.1 (consG ok.2.2.1 allG)))) rfl rfl rfl ⟨ok.2.2.2.1, ok.2.2.2.2.1, ok.2.2.2.2.2⟩ hR) ⟨fun _ _ _ _ q => ⟨q.1, q.2.blind⟩, fun _ hU hW9 => ⟨rfl, Oc.Wp hK hEx hL.2.2.2.2 hL.1 hL.2.2.1 hU hW9⟩⟩ rfl (by simp [hn]) hsize (by show st0 = _; rw [hst]; simp) (lv_room hW) hdg hf) kk
theorem ly_tab {v : Int32} (hK : va_K D vc (tyl cA) s) (hEx : Ex (0, 0, s.heap.size) sa s) (S : CallFix p m c cc nL s args (c0 :: ALLW) own) (hL : Two D cA s lx ly wx wy H locs) (hR : d + 1 ≤ R.frames ∧ 8 + (mL + 11) + 40 * d ≤ R.locals) (hn : As.length = n) (hsize : ls.size = nL) (hW : (rest.map fun v => v.category).sum ≤ 8) (hl : Cond.methodLink own index y ∈ ALLW) (hM : ∀ P : Pl, Adr P → 26 ≤ P.2.2.2.1 → CtW l P y b mL hh d mc (.ref (P.2.1 0) :: As) wy v w') (ok : okW y b mL hh (n + 1)) (hst : st0 = As.reverse ++ .ref ly :: rest) (hdg : decode cc pc = .ok (.invokestatic index, 3)) (hf : cells + mc ≤ R.cells ∧ slots + 6 * mc ≤ R.slots)
    (kk : ∀ (H1 : Heap) (locs1 : List Loc), okR (some .int) v → Two D cA s lx ly wx w' H1 locs1 → W p l e R s m args below meth c H1 locs1 (cells + mc) (slots + 6 * mc) Q (F0 m (pc + 3) ls (.int v :: rest))) : W p l e R s m args below meth c H locs cells slots Q (F0 m pc ls st0) :=
  ly_i hL (vx_runSW (As := .ref ly :: As) S (hM (Po D cA sa ly H.size) Po_adr (Nat.le_refl _)) (vx_cwSW (n + 1) S.2.2.2.2 (consG hl (consG ok.1 (consG ok.2.1 (consG ok.2.2.1 allG)))) rfl rfl rfl ⟨ok.2.2.2.1, ok.2.2.2.2.1, ok.2.2.2.2.2⟩ hR) ⟨fun _ _ _ _ q => ⟨q.1, q.2.blind⟩, fun _ hU hW9 => ⟨rfl, Oc.Wp hK hEx hL.2.2.2.2 (Nat.le_trans hL.1 (Nat.le_trans (Nat.le_add_right _ _) hL.2.1)) hL.2.2.2.1 hU hW9⟩⟩ rfl (by simp [hn]) hsize (by show st0 = _; rw [hst]; simp) (lv_room hW) hdg hf) kk
/-- with a text: a literal's facts at the start serve at each call -/
theorem lx_WpT {a v lo : Nat} {w : Wo} {cs : List Nat} {U : State} (hK : va_K D vc (tyl cA) s) (hEx : Ex (0, 0, s.heap.size) sa s) (hX : SxA (A0 s.heap.size) s s.heap) (hS : va_S (A0 s.heap.size) s.heap H locs) (hlo : s.heap.size ≤ lo) (h : Oc D cA lo w H) (hT : ∀ U : State, U.heap = H → s.WarmedH U.vm → TxA (Ab (lo, lo + 26, H.size)) a v cs.length (txf cs) U U.heap) (hU : U.heap = H) (hW9 : s.WarmedH U.vm) : WpT (Po D cA sa lo H.size) w a v cs U :=
  ⟨Oc.Wp hK hEx hS hlo h hU hW9, hX.at hS (Ab_A0 hlo hS.1) hU hW9, hT U hU hW9⟩
theorem lit_at {a v lo : Nat} {cs : List Nat} (hT : TxA (A0 s.heap.size) a v cs.length (txf cs) s s.heap) (hS : va_S (A0 s.heap.size) s.heap H locs) (hlo : s.heap.size ≤ lo) : ∀ U : State, U.heap = H → s.WarmedH U.vm → TxA (Ab (lo, lo + 26, H.size)) a v cs.length (txf cs) U U.heap := fun _ hU hW9 => hT.at hS (Ab_A0 hlo hS.1) hU hW9
theorem lx_put {a v : Nat} {cs : List Nat}  (hK : va_K D vc (tyl cA) s) (hEx : Ex (0, 0, s.heap.size) sa s) (S : CallFix p m c cc nL s args (c0 :: ALLW) own) (hL : Two D cA s lx ly wx wy H locs) (hX : SxA (A0 s.heap.size) s s.heap) (hR : d + 1 ≤ R.frames ∧ 8 + (mL + 11) + 40 * d ≤ R.locals) (hsize : ls.size = nL) (hW : (rest.map fun v => v.category).sum ≤ 8) (hl : Cond.methodLink own index y ∈ ALLW) (hT : ∀ U : State, U.heap = H → s.WarmedH U.vm → TxA (Ab (lx, lx + 26, H.size)) a v cs.length (txf cs) U U.heap) (hM : ∀ P : Pl, Adr P → 26 ≤ P.2.2.2.1 → Met l y (wsU y b mL none) (rmU d 0 0) (va_Pc [.ref (P.2.1 0), .ref a] (WpT P wx a v cs)) (va_Qv (fun (u : Wo) => u = w') (Wq P) (Ab P.2.2.2.2.1)) 0 0 (Ab P.2.2.2.2.1)) (ok : okS y b mL none 2) (hst : st0 = .ref a :: .ref lx :: rest) (hdg : decode cc pc = .ok (.invokestatic index, 3)) (hf : cells + 0 ≤ R.cells ∧ slots + 0 ≤ R.slots)
    (kk : ∀ (H1 : Heap) (locs1 : List Loc), Two D cA s lx ly w' wy H1 locs1 → W p l e R s m args below meth c H1 locs1 cells slots Q (F0 m (pc + 3) ls rest)) : W p l e R s m args below meth c H locs cells slots Q (F0 m pc ls st0) :=
  lx_v hL (tt_S (As := [.ref lx, .ref a]) S (fun _ hU hW9 => lx_WpT hK hEx hX hL.2.2.2.2 hL.1 hL.2.2.1 hT hU hW9) WpT.bl (hM (Po D cA sa lx H.size) Po_adr (Nat.le_refl _)) ok hl hR rfl hsize hst hW hdg hf) kk
theorem lx_flt {a v : Nat} {x2 r : Int32} {cs : List Nat}  (hK : va_K D vc (tyl cA) s) (hEx : Ex (0, 0, s.heap.size) sa s) (S : CallFix p m c cc nL s args (c0 :: ALLW) own) (hL : Two D cA s lx ly wx wy H locs) (hX : SxA (A0 s.heap.size) s s.heap) (hR : d + 1 ≤ R.frames ∧ 8 + (mL + 11) + 40 * d ≤ R.locals) (hsize : ls.size = nL) (hW : (rest.map fun v => v.category).sum ≤ 8) (hl : Cond.methodLink own index y ∈ ALLW) (hT : ∀ U : State, U.heap = H → s.WarmedH U.vm → TxA (Ab (lx, lx + 26, H.size)) a v cs.length (txf cs) U U.heap) (hM : ∀ P : Pl, Adr P → 26 ≤ P.2.2.2.1 → Met l y (wsU y b mL ret) (rmU d mc (6 * mc)) (va_Pc [.ref (P.2.1 0), .ref a, .int x2] (WpT P wx a v cs)) (va_Qi (fun (q : Int32) (u : Wo) => q = r ∧ u = w' ∧ okR ret r) (Wq P) (Ab P.2.2.2.2.1)) mc (6 * mc) (Ab P.2.2.2.2.1)) (ok : okS y b mL ret 3) (hst : st0 = .int x2 :: .ref a :: .ref lx :: rest) (hdg : decode cc pc = .ok (.invokestatic index, 3)) (hf : cells + mc ≤ R.cells ∧ slots + 6 * mc ≤ R.slots)
    (kk : ∀ (H1 : Heap) (locs1 : List Loc), okR ret r → Two D cA s lx ly w' wy H1 locs1 → W p l e R s m args below meth c H1 locs1 (cells + mc) (slots + 6 * mc) Q (F0 m (pc + 3) ls (.int r :: rest))) : W p l e R s m args below meth c H locs cells slots Q (F0 m pc ls st0) :=
  lx_i hL (tt_S (As := [.ref lx, .ref a, .int x2]) S (fun _ hU hW9 => lx_WpT hK hEx hX hL.2.2.2.2 hL.1 hL.2.2.1 hT hU hW9) WpT.bl (hM (Po D cA sa lx H.size) Po_adr (Nat.le_refl _)) ok hl hR rfl hsize hst hW hdg hf) kk
theorem ly_line {a v : Nat} {x1 r : Int32} {cs : List Nat}  (hK : va_K D vc (tyl cA) s) (hEx : Ex (0, 0, s.heap.size) sa s) (S : CallFix p m c cc nL s args (c0 :: ALLW) own) (hL : Two D cA s lx ly wx wy H locs) (hX : SxA (A0 s.heap.size) s s.heap) (hR : d + 1 ≤ R.frames ∧ 8 + (mL + 11) + 40 * d ≤ R.locals) (hsize : ls.size = nL) (hW : (rest.map fun v => v.category).sum ≤ 8) (hl : Cond.methodLink own index y ∈ ALLW) (hT : ∀ U : State, U.heap = H → s.WarmedH U.vm → TxA (Ab (ly, ly + 26, H.size)) a v cs.length (txf cs) U U.heap) (hM : ∀ P : Pl, Adr P → 26 ≤ P.2.2.2.1 → Met l y (wsU y b mL ret) (rmU d 0 0) (va_Pc [.ref (P.2.1 0), .int x1, .ref a] (WpT P wy a v cs)) (va_Qi (fun (q : Int32) (u : Wo) => q = r ∧ u = w' ∧ okR ret r) (Wq P) (Ab P.2.2.2.2.1)) 0 0 (Ab P.2.2.2.2.1)) (ok : okS y b mL ret 3) (hst : st0 = .ref a :: .int x1 :: .ref ly :: rest) (hdg : decode cc pc = .ok (.invokestatic index, 3)) (hf : cells + 0 ≤ R.cells ∧ slots + 0 ≤ R.slots)
    (kk : ∀ (H1 : Heap) (locs1 : List Loc), okR ret r → Two D cA s lx ly wx w' H1 locs1 → W p l e R s m args below meth c H1 locs1 cells slots Q (F0 m (pc + 3) ls (.int r :: rest))) : W p l e R s m args below meth c H locs cells slots Q (F0 m pc ls st0) :=
  ly_i hL (tt_S (As := [.ref ly, .int x1, .ref a]) S (fun _ hU hW9 => lx_WpT hK hEx hX hL.2.2.2.2 (Nat.le_trans hL.1 (Nat.le_trans (Nat.le_add_right _ _) hL.2.1)) hL.2.2.2.1 hT hU hW9) WpT.bl (hM (Po D cA sa ly H.size) Po_adr (Nat.le_refl _)) ok hl hR rfl hsize hst hW hdg hf) kk
end CX
/-- a String constant by a wide index -/
theorem va_ldcSW {tx : String} {q : Nat} (hexec : p.tables.exec = Jvm.exec) (hb : c.code = cc) (hown : s.vm.findClass own = some m.cls) (hZ : vk_R own index tx q s) (hdg : decode cc pc = .ok (.ldc_w index, 3))
    (k : W p l e R s m args below meth c H locs cells slots Q (F0 m (pc + 3) ls (.ref q :: rest))) : W p l e R s m args below meth c H locs cells slots Q (F0 m pc ls rest) := by
  intro T hT X
  obtain ⟨t, a1, b1⟩ := k T hT X
  exact ⟨t, X.ldcStringW hexec hown (text := tx) (a := q) hZ.1 hZ.2 (g := F0 m pc ls rest) rfl (by rw [hb]; exact hdg) t a1, b1⟩
end LL
