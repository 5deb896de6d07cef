section VKP
variable {p : Program} {l : Launch} {e : Env} {R : Room} {s : State} {m : MethodId} {args : Array Value} {below : List Frame} {meth : Method} {c : Code} {H : Heap} {locs : List Loc} {cells slots : Nat} {Q : State → Prop}
variable {cc b : ByteArray} {pc nL mL : Nat} {ls : Array Slot} {rest As st0 : List Value} {own C host : String} {Ts : List Cond} {P P' : Pl} {w w' : Wo} {fl fl' : Nat → Nat → Bool} {T : u_T} {N ci k index n d mc ms : Nat} {c0 : Cond} {y : MethodName}
theorem vk_put {v : Value} (S : CallFix p m c cc nL s args Ts own) (hF : Fc P s) (hP : SC P s fl w H locs) (h : Nat) (hh : h < P.2.2.2.1) (hs : (shp h).1 = ci) (hc7 : ci < 7) (hc : vc[ci]? = some (C, T, N)) (hk : k < N) (ty0 : Nat → FieldType) (hty : ∀ k, k < N → parseFieldDescriptor (T k).2.2.1 = some (ty0 k)) (hnm : ∀ a, a < N → ∀ b, b < N → a ≠ b → (T a).2.1 ≠ (T b).2.1) (hfin : (T k).2.2.2 = false) (hn : narrow (ty0 k) v = v) (hfit : fits (ty0 k) v = true) (hl : k < (kds ci).length) (hin : ∀ w ∈ u_ws C T N, w ∈ Ts) (hlink : Cond.fieldLink own index (T k).1 (T k).2.1 (T k).2.2.1 ∈ Ts) (hdg : decode cc pc = .ok (.putfield index, 3))
    (he : cec fl' P.2.1 P.2.2.1 w' h = .inr (ci, ((kds ci).mapIdx (fun k q => vqc fl P.2.1 w h k q)).set k v)) (ho : ∀ j, j ≠ h → cec fl' P.2.1 P.2.2.1 w' j = cec fl P.2.1 P.2.2.1 w j)
    (kk : ∀ (H1 : Heap) (locs1 : List Loc), SC P s fl' w' H1 locs1 → W p l e R s m args below meth c H1 locs1 cells slots Q (F0 m (pc + 3) ls rest)) : W p l e R s m args below meth c H locs cells slots Q (F0 m pc ls (v :: .ref (P.2.1 h) :: rest)) := by
  have hts : ∀ w ∈ Ts, w.before args s = true := S.2.2.2.2
  have hat := wc_at (fl := fl) (ad := P.2.1) (cA := P.2.2.1) (w := w) hh
  rw [cec_obj hs hc7] at hat
  have hap := va_apart (own := own) hts hin ty0 hty hnm hF.2.1 hc
  obtain ⟨r, h1, cell, q1, q2, q3, q4⟩ := hP.1.1 h _ hat
  have hr : r = (C, T, N) := Option.some.inj (h1.symm.trans hc)
  subst hr
  obtain ⟨hS, hfc, kC, hkC, hkind⟩ := hF.2.1.1 ci _ hc
  obtain ⟨cf, kf, fi, f, hi, hsl⟩ := hS k hk
  have hlay := hts _ (hin _ (u_in_lay hk))
  unfold u_lay at hlay
  rw [if_neg (by rw [hfin]; decide)] at hlay
  have hst := (u_facts hfc hkC (u_lays hts hin hk) hi).1
  have h6 := u_store hfc hkC hkind hlay hi (hty k hk) hn hfit
  refine W.putK S.1 S.2.1 (f := f) ⟨S.2.2.2.1, hts _ hlink, ⟨_, _, _, hi⟩, hst⟩ (by rw [q2]; exact h6) q1 q3 (by rw [hsl]; exact k2_hasslot (q4 k hk)) rfl rfl hdg fun H' e1 e2 e3 => ?_
  rw [hsl] at e1 ⊢
  have hD := hF.D fl w
  have hx := hP.1.1.set hD hat (e := .inr (ci, ((kds ci).mapIdx (fun k q => vqc fl P.2.1 w h k q)).set k v)) ⟨_, hc, t_OB.to (V := updV (vp_V ((kds ci).mapIdx (fun k q => vqc fl P.2.1 w h k q))) k v) ⟨_, e1, q2, q3, t_set q4 hap hk v⟩ (fun j _ => vp_updV_set (by rw [List.length_mapIdx]; exact hl) v j)⟩ e3
  rw [wc_set he ho] at hx
  exact kk H' _ ⟨⟨hx, e2.trans hP.1.2⟩, hP.2.put e2 e3 (hD.2 h _ hat)⟩
theorem vk_putF {v : Value} (S : CallFix p m c cc nL s args Ts own) (hF : Fc P s) (hP : SC P s fl w H locs) (h : Nat) (hh : h < P.2.2.2.1) (hs : (shp h).1 = ci) (hc7 : ci < 7) (hc : vc[ci]? = some (C, T, N)) (hk : k < N) (ty0 : Nat → FieldType) (hty : ∀ k, k < N → parseFieldDescriptor (T k).2.2.1 = some (ty0 k)) (hnm : ∀ a, a < N → ∀ b, b < N → a ≠ b → (T a).2.1 ≠ (T b).2.1) (hfin : (T k).2.2.2 = true) (hin2 : meth.name = "<init>") (hdecl : (T k).1 = own) (hn : narrow (ty0 k) v = v) (hfit : fits (ty0 k) v = true) (hl : k < (kds ci).length) (hin : ∀ w ∈ u_ws C T N, w ∈ Ts) (hlink : Cond.fieldLink own index (T k).1 (T k).2.1 (T k).2.2.1 ∈ Ts) (hdg : decode cc pc = .ok (.putfield index, 3))
    (he : cec fl' P.2.1 P.2.2.1 w' h = .inr (ci, ((kds ci).mapIdx (fun k q => vqc fl P.2.1 w h k q)).set k v)) (ho : ∀ j, j ≠ h → cec fl' P.2.1 P.2.2.1 w' j = cec fl P.2.1 P.2.2.1 w j)
    (kk : ∀ (H1 : Heap) (locs1 : List Loc), SC P s fl' w' H1 locs1 → W p l e R s m args below meth c H1 locs1 cells slots Q (F0 m (pc + 3) ls rest)) : W p l e R s m args below meth c H locs cells slots Q (F0 m pc ls (v :: .ref (P.2.1 h) :: rest)) := by
  have hts : ∀ w ∈ Ts, w.before args s = true := S.2.2.2.2
  have hat := wc_at (fl := fl) (ad := P.2.1) (cA := P.2.2.1) (w := w) hh
  rw [cec_obj hs hc7] at hat
  have hap := va_apart (own := own) hts hin ty0 hty hnm hF.2.1 hc
  obtain ⟨r, h1, cell, q1, q2, q3, q4⟩ := hP.1.1 h _ hat
  have hr : r = (C, T, N) := Option.some.inj (h1.symm.trans hc)
  subst hr
  obtain ⟨hS, hfc, kC, hkC, hkind⟩ := hF.2.1.1 ci _ hc
  obtain ⟨cf, kf, fi, f, hi, hsl⟩ := hS k hk
  have hlay := hts _ (hin _ (u_in_lay hk))
  unfold u_lay at hlay
  rw [if_pos hfin] at hlay
  have hst := (u_facts hfc hkC (u_lays hts hin hk) hi).1
  have hcf : m.cls = cf := by
    obtain ⟨_, _, c', _, _, _, -, -, hf', -, -, -, hown2, -⟩ := Cond.laysFinal_spec hlay
    have e1 : c' = cf := by have := hi.symm.trans hf'; simp at this; exact this.1.symm
    rw [hdecl] at hown2
    rw [← e1]; exact Option.some.inj (S.2.2.2.1.symm.trans hown2)
  have h6 := u_fits hfc hkC hkind (Or.inr hlay) hi (hty k hk) hn hfit
  refine W.putFinK S.1 S.2.1 S.2.2.2.1 (hts _ hlink) hi hst hcf hin2 (by rw [q2]; exact h6) q1 q3 (by rw [hsl]; exact k2_hasslot (q4 k hk)) rfl rfl hdg fun H' e1 e2 e3 => ?_
  rw [hsl] at e1 ⊢
  have hD := hF.D fl w
  have hx := hP.1.1.set hD hat (e := .inr (ci, ((kds ci).mapIdx (fun k q => vqc fl P.2.1 w h k q)).set k v)) ⟨_, hc, t_OB.to (V := updV (vp_V ((kds ci).mapIdx (fun k q => vqc fl P.2.1 w h k q))) k v) ⟨_, e1, q2, q3, t_set q4 hap hk v⟩ (fun j _ => vp_updV_set (by rw [List.length_mapIdx]; exact hl) v j)⟩ e3
  rw [wc_set he ho] at hx
  exact kk H' _ ⟨⟨hx, e2.trans hP.1.2⟩, hP.2.put e2 e3 (hD.2 h _ hat)⟩
/-- a board into the ring -/
theorem vk_aast {i : Int32} {j r K : Nat} (hj : i.toNatClampNeg = j) (S : CallFix p m c cc nL s args Ts own) (hF : Fc P s) (hP : SC P s fl w H locs) {h : Nat} (hh : h < P.2.2.2.1) (hs : shp h = (14, K)) (hi : ¬ (i < 0 ∨ K ≤ i.toNatClampNeg)) (hr : rf h j = r) (hr2 : r < P.2.2.2.1) (hsr : (shp r).1 = 0) (hdg : decode cc pc = .ok (.aastore, 1))
    (kk : ∀ (H1 : Heap) (locs1 : List Loc), SC P s (upF fl h j) w H1 locs1 → W p l e R s m args below meth c H1 locs1 cells slots Q (F0 m (pc + 1) ls rest)) : W p l e R s m args below meth c H locs cells slots Q (F0 m pc ls (.ref (P.2.1 r) :: .int i :: .ref (P.2.1 h) :: rest)) := by
  have hat := wc_at (fl := fl) (ad := P.2.1) (cA := P.2.2.1) (w := w) hh
  have hcc : cec fl P.2.1 P.2.2.1 w h = .inl (P.2.2.1 4, K, .inr (.inr (.inr (.inr (fun j => if fl h j = true then some (P.2.1 (rf h j)) else none))))) := by
    unfold cec
    rw [hs]
    rfl
  rw [hcc] at hat
  have hatr := wc_at (fl := fl) (ad := P.2.1) (cA := P.2.2.1) (w := w) hr2
  rw [cec_obj hsr (by decide)] at hatr
  have hlt : i.toNatClampNeg < K := Nat.not_le.mp fun q => hi (Or.inr q)
  have h0 : ¬ i < 0 := fun q => hi (Or.inl q)
  obtain ⟨r', hr', cellV, g1, g2, g3, -⟩ := hP.1.1 r _ hatr
  have hcls := (hF.2.1.1 0 _ rfl).2
  obtain ⟨kA, comp, k1, k2, k3, -⟩ := (hF.2.1.2 4 _ rfl).2
  have hcomp : comp = P.1.1 0 := Option.some.inj (k3.symm.trans hcls.1)
  subst hcomp
  obtain ⟨kC, hkC, -⟩ := hcls.2
  have hD := hF.D fl w
  refine W.aast S.1 S.2.1 (hP.1.1 h _ hat) (fun q h => by cases h) (fun h => by cases h) k1 k2 rfl hkC ⟨h0, by show _ < (arrV _ _ _).slots.size; rw [arrV_size]; exact hlt⟩ g1 (fun q h => by rw [g3] at h; cases h) (by rw [g2]; exact hkC) (by rw [g2]; exact va_assign hcls) rfl rfl hdg fun H1 e z oq => ?_
  have hx := hP.1.1.set hD hat (e := .inl (P.2.2.1 4, K, .inr (.inr (.inr (.inr (va_up (fun j => if fl h j = true then some (P.2.1 (rf h j)) else none) j (some (P.2.1 (rf h j)))))))))
    (by
      show H1[P.2.1 h]? = some (vp_cell _ _)
      rw [e]
      rw [vp_cell_q, vp_cell_q, arrV_store]
      congr 2
      funext q
      subst hj
      by_cases hq : q = i.toNatClampNeg
      · subst hq
        simp [updV, va_up, va_rf, hr]
      · simp [updV, va_up, hq]) oq
  rw [wc_set (fl' := upF fl h j) (w' := w) (by rw [cec_aast (by rw [hs]), hs]) (fun q hq => cec_upF hq)] at hx
  exact kk H1 _ ⟨⟨hx, z.trans hP.1.2⟩, hP.2.put z oq (hD.2 h _ hat)⟩
/-- a reference that is set already -/
theorem vk_getR {r : Nat} (S : CallFix p m c cc nL s args Ts own) (hF : Fc P s) (hP : SC P s fl w H locs) (h : Nat) (hh : h < P.2.2.2.1) (hs : (shp h).1 = ci) (hc7 : ci < 7) (hc : vc[ci]? = some (C, T, N)) (hk : k < N) (hq : (kds ci)[k]? = some 2) (hr : rf h k = r) (hfl : fl h k = true) (hin : ∀ w ∈ u_ws C T N, w ∈ Ts) (hlink : Cond.fieldLink own index (T k).1 (T k).2.1 (T k).2.2.1 ∈ Ts) (hdg : decode cc pc = .ok (.getfield index, 3))
    (kk : W p l e R s m args below meth c H locs cells slots Q (F0 m (pc + 3) ls (.ref (P.2.1 r) :: rest))) : W p l e R s m args below meth c H locs cells slots Q (F0 m pc ls (.ref (P.2.1 h) :: rest)) :=
  va_get S.1 S.2.1 S.2.2.2.2 hin S.2.2.2.1 hF.2.1 hP.1.1 h (by rw [wc_at hh, cec_obj hs hc7]) hc k hk (S.2.2.2.2 _ hlink) (fun _ h9 => h9) (by rw [List.getElem?_mapIdx, hq]; show some (vqc fl P.2.1 w h k 2) = _; simp [vqc, hfl, hr]) hdg kk
theorem vk_pre {P : Pl} {s : State} {fl : Nat → Nat → Bool} {w : Wo} {H : Heap} {locs : List Loc} (hF : Fc P s) (hP : SC P s fl w H locs) {As : List Value} {a : Nat} : PreS s H (va_Pc (.ref a :: As) (WpC P fl w)) (.ref a :: As) :=
  ⟨fun _ _ _ _ q => ⟨q.1, q.2.blind⟩, fun _ hU hW => ⟨rfl, hP.W hF hU hW⟩⟩
/-- a call of a constructor -/
theorem vk_init {a : Nat} (S : CallFix p m c cc nL s args (c0 :: ALLW) own) (hF : Fc P s) (hP : SC P s fl w H locs) (hM : CtC l P y b mL d mc ms [.ref a] fl w P' fl' w') (ok : okI y b mL 0) (hl : Cond.methodLink own index y ∈ ALLW) (hn0 : P'.2.2.2.2.1 = P.2.2.2.2.1)
    (hR : d + 1 ≤ R.frames ∧ 8 + (mL + 11) + 40 * d ≤ R.locals) (hsize : ls.size = nL) (hW : (rest.map fun v => v.category).sum ≤ 8) (hdg : decode cc pc = .ok (.invokespecial index, 3)) (hf : cells + mc ≤ R.cells ∧ slots + ms ≤ R.slots)
    (kk : ∀ (H1 : Heap) (locs1 : List Loc), SC P' s fl' w' H1 locs1 → W p l e R s m args below meth c H1 locs1 (cells + mc) (slots + ms) Q (F0 m (pc + 3) ls rest)) : W p l e R s m args below meth c H locs cells slots Q (F0 m pc ls (.ref a :: rest)) := by
  refine va_callv (va_runI (As := []) (rest := rest) S hM (cwI 0 S.2.2.2.2 (consG ok.2.2.1 allG) rfl rfl rfl (S.2.2.2.2 _ (List.mem_cons_of_mem _ ok.2.1)) (S.2.2.2.2 _ (List.mem_cons_of_mem _ hl)) (S.2.2.2.2 _ (List.mem_cons_of_mem _ ok.1)) ok.2.2.2.2.2.2 ⟨ok.2.2.2.1, ok.2.2.2.2.1, ok.2.2.2.2.2.1⟩ hR) (vk_pre hF hP) rfl rfl hsize rfl (lv_room hW) hdg hf) hP.2 (fun _ _ h => h) (fun _ h => h) (fun u t H1 locs1 ht _ hw hB _ _ hS => ?_)
  subst hw
  subst ht
  exact kk _ _ ⟨hB, by rw [hn0]; exact hS⟩
/-- a call of a private constructor of a nest mate -/
theorem vk_initN {a : Nat} (S : CallFix p m c cc nL s args (c0 :: ALLW) own) (hF : Fc P s) (hP : SC P s fl w H locs) (hM : CtC l P y b mL d mc ms [.ref a] fl w P' fl' w') (ok : okI y b mL 0) (hl : (own, index, y, host) ∈ nests) (hn0 : P'.2.2.2.2.1 = P.2.2.2.2.1)
    (hR : d + 1 ≤ R.frames ∧ 8 + (mL + 11) + 40 * d ≤ R.locals) (hsize : ls.size = nL) (hW : (rest.map fun v => v.category).sum ≤ 8) (hdg : decode cc pc = .ok (.invokespecial index, 3)) (hf : cells + mc ≤ R.cells ∧ slots + ms ≤ R.slots)
    (kk : ∀ (H1 : Heap) (locs1 : List Loc), SC P' s fl' w' H1 locs1 → W p l e R s m args below meth c H1 locs1 (cells + mc) (slots + ms) Q (F0 m (pc + 3) ls rest)) : W p l e R s m args below meth c H locs cells slots Q (F0 m pc ls (.ref a :: rest)) := by
  refine va_callv (va_runIN (As := []) (rest := rest) S hM ⟨va_cnB 0 S.2.2.2.2 (consG ok.2.2.1 allG) rfl rfl rfl (hF.2.2.1.2.2.2.1 _ hl) (S.2.2.2.2 _ (List.mem_cons_of_mem _ ok.2.1)) ⟨ok.2.2.2.1, ok.2.2.2.2.1, ok.2.2.2.2.2.1⟩ hR, ok.2.2.2.2.2.2, S.2.2.2.2 _ (List.mem_cons_of_mem _ ok.1)⟩ (vk_pre hF hP) rfl rfl hsize rfl (lv_room hW) hdg hf) hP.2 (fun _ _ h => h) (fun _ h => h) (fun u t H1 locs1 ht _ hw hB _ _ hS => ?_)
  subst hw
  subst ht
  exact kk _ _ ⟨hB, by rw [hn0]; exact hS⟩
end VKP
