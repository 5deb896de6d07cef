theorem lk_out {ps : List (Int × Int)} {dflt : Int} {x : Int32} (h : ∀ q ∈ ps, x ≠ Int32.ofInt q.1) : Op.lookupswitch.offset ps dflt x.toInt = dflt := by
  induction ps with
  | nil => rfl
  | cons a r ih =>
    obtain ⟨a1, a2⟩ := a
    rw [Op.lookupswitch.offset_cons, if_neg, ih (fun q hq => h q (List.mem_cons_of_mem _ hq))]
    intro e
    exact h (a1, a2) List.mem_cons_self (by rw [e]; simp)
section VN
variable {p : Program} {l : Launch} {e : Env} {R : Room} {s : State} {m : MethodId} {args : Array Value} {below : List Frame} {meth : Method} {c : Code} {H : Heap} {locs : List Loc} {cells slots : Nat} {Q : State → Prop}
variable {cc : ByteArray} {pc nL : Nat} {ls : Array Slot} {rest : List Value} {own C : String} {Ts : List Cond} {P : Pl} {w : Wo} {T : u_T} {N ci k index n : Nat}
theorem ce_putN {ad : Nat → Nat} {cA : Nat → ClassId} {h r : Nat} (hs : (shp h).1 = ci) (hc7 : ci < 7) (hq : (kds ci)[k]? = some 3) (hr : rf h k = r) : ce ad cA (pI w h k 1) h = .inr (ci, ((kds ci).mapIdx (fun k q => vq ad w h k q)).set k (.ref (ad r))) := by
  rw [ce_obj hs hc7]
  congr 2
  refine (mapIdx_set hq (by show vq ad (pI w h k 1) h k 3 = _; simp [vq, gI, pI, hr]) (fun j x hj => ?_)).symm
  have e1 : gI (pI w h k 1) h j = gI w h j := by simp [gI, pI, hj]
  have e2 : gL (pI w h k 1) h j = gL w h j := rfl
  unfold vq
  rw [e1, e2]
theorem vt_putN {r : Nat} {t0 : FieldType} (S : CallFix p m c cc nL s args Ts own) (hF : Fx P s) (hP : St P s w H locs) (h : Nat) (hh : h < P.2.2.2.1) (hs : (shp h).1 = ci) (hc7 : ci < 7) (hc : vc[ci]? = some (C, T, N)) (hk : k < N) (hq : (kds ci)[k]? = some 3) (hr : rf h k = r) (ty0 : Nat → FieldType) (hty : ∀ k, k < N → parseFieldDescriptor (T k).2.2.1 = some (ty0 k)) (hnm : ∀ a, a < N → ∀ b, b < N → a ≠ b → (T a).2.1 ≠ (T b).2.1) (hfin : (T k).2.2.2 = false) (hd : ty0 k = .array t0) (hl : k < ((kds ci).length)) (hin : ∀ w ∈ u_ws C T N, w ∈ Ts) (hlink : Cond.fieldLink own index (T k).1 (T k).2.1 (T k).2.2.1 ∈ Ts) (hdg : decode cc pc = .ok (.putfield index, 3))
    (kk : ∀ (H1 : Heap) (locs1 : List Loc), St P s (pI w h k 1) H1 locs1 → W p l e R s m args below meth c H1 locs1 cells slots Q (F0 m (pc + 3) ls rest)) : W p l e R s m args below meth c H locs cells slots Q (F0 m pc ls (.ref (P.2.1 r) :: .ref (P.2.1 h) :: rest)) := by
  refine va_put S.1 S.2.1 S.2.2.2.2 hin ty0 hty hnm S.2.2.2.1 hF.2.1 hP.1 (hF.2.2.2.D w) hP.2 h (by rw [wl_at hh, ce_obj hs hc7]) hc k hk (S.2.2.2.2 _ hlink) (fun _ h9 => h9) hfin (by rw [hty k hk, hd]) rfl rfl (by rw [List.length_mapIdx]; exact hl) hdg (fun H1 locs1 q1 q2 q3 => kk H1 locs1 ⟨?_, q3⟩)
  rw [← wl_set (ce_putN hs hc7 hq hr) (fun j hj => pI_o hj)]
  exact q1
end VN
theorem ve_thr4 {p : Program} {l : Launch} {e : Env} {R : Room} {s : State} {m : MethodId} {args : Array Value} {below : List Frame} {meth : Method} {c : Code} {H : Heap} {locs : List Loc} {cells slots mc ms : Nat} {cc : ByteArray} {pc nL : Nat} {ls : Array Slot} {c0 : Cond} {P : Pl} {w : Wo} {Qc : Array Value → State → Outcome → State → Prop} {rest : List Value} {α : Type} {is : Nat} {text : String} (hl : l.stackTraces = false) (S : CallFix p m c cc nL s args (c0 :: ALLW) RX5) (hF : Fx P s) (hP : St P s w H locs) (hq : (is, text) ∈ strs) (hsz : ls.size = nL) (hlocks : meth.locks = false) (hx : ∀ x ∈ c.exceptionTable.toList, False)
    (d0 : decode cc pc = .ok (.new 127, 3)) (d3 : decode cc (pc + 3) = .ok (.dup, 1)) (d4 : decode cc (pc + 4) = .ok (.ldc is, 2)) (d6 : decode cc (pc + 6) = .ok (.invokespecial 131, 3)) (d9 : decode cc (pc + 9) = .ok (.athrow, 1))
    (hR : 6 ≤ R.frames ∧ (rest.map fun v => v.category).sum + 82 ≤ R.locals ∧ cells + 1 ≤ R.cells ∧ slots + 6 ≤ R.slots) (hc : cells + 1 ≤ mc) (hs : slots + 6 ≤ ms) :
    W p l e R s m args below meth c H locs cells slots (vx_MQ below Qc (exX P (α := α) (.inl (4, w))) args s mc ms (Ab P.2.2.2.2.1)) (F0 m pc ls rest) := by
  sorry
theorem ve_thr4W {p : Program} {l : Launch} {e : Env} {R : Room} {s : State} {m : MethodId} {args : Array Value} {below : List Frame} {meth : Method} {c : Code} {H : Heap} {locs : List Loc} {cells slots mc ms : Nat} {cc : ByteArray} {pc nL : Nat} {ls : Array Slot} {c0 : Cond} {P : Pl} {w : Wo} {Qc : Array Value → State → Outcome → State → Prop} {rest : List Value} {α : Type} {is : Nat} {text : String} (hl : l.stackTraces = false) (S : CallFix p m c cc nL s args (c0 :: ALLW) RX5) (hF : Fx P s) (hP : St P s w H locs) (hq : (is, text) ∈ strs) (hsz : ls.size = nL) (hlocks : meth.locks = false) (hx : ∀ x ∈ c.exceptionTable.toList, False)
    (d0 : decode cc pc = .ok (.new 127, 3)) (d3 : decode cc (pc + 3) = .ok (.dup, 1)) (d4 : decode cc (pc + 4) = .ok (.ldc_w is, 3)) (d6 : decode cc (pc + 7) = .ok (.invokespecial 131, 3)) (d9 : decode cc (pc + 10) = .ok (.athrow, 1))
    (hR : 6 ≤ R.frames ∧ (rest.map fun v => v.category).sum + 82 ≤ R.locals ∧ cells + 1 ≤ R.cells ∧ slots + 6 ≤ R.slots) (hc : cells + 1 ≤ mc) (hs : slots + 6 ≤ ms) :
    W p l e R s m args below meth c H locs cells slots (vx_MQ below Qc (exX P (α := α) (.inl (4, w))) args s mc ms (Ab P.2.2.2.2.1)) (F0 m pc ls rest) := by
  sorry
section VK
variable {p : Program} {l : Launch} {e : Env} {R : Room} {s : State} {m : MethodId} {args : Array Value} {below : List Frame} {meth : Method} {c : Code} {H : Heap} {locs : List Loc} {cells slots : Nat} {Q : State → Prop}
variable {cc : ByteArray} {pc nL : Nat} {ls : Array Slot} {rest : List Value} {own : String} {Ts : List Cond} {P : Pl} {w : Wo}
/-- an element by a written number -/
theorem vt_ialdK {h n : Nat} {i : Int32} (j : Nat) (hj : i.toNatClampNeg = j) (S : CallFix p m c cc nL s args Ts own) (hF : Fx P s) (hP : St P s w H locs) (hh : h < P.2.2.2.1) (hs : shp h = (10, n)) (hi : ¬ (i < 0 ∨ n ≤ i.toNatClampNeg)) (hdg : decode cc pc = .ok (.iaload, 1))
    (kk : W p l e R s m args below meth c H locs cells slots Q (F0 m (pc + 1) ls (.int (gI w h j) :: rest))) : W p l e R s m args below meth c H locs cells slots Q (F0 m pc ls (.int i :: .ref (P.2.1 h) :: rest)) := by
  subst hj
  exact vt_iald S hF hP hh hs hi hdg kk
theorem vt_iastK {h n : Nat} {i x : Int32} (j : Nat) (hj : i.toNatClampNeg = j) (S : CallFix p m c cc nL s args Ts own) (hF : Fx P s) (hP : St P s w H locs) (hh : h < P.2.2.2.1) (hs : shp h = (10, n)) (hi : ¬ (i < 0 ∨ n ≤ i.toNatClampNeg)) (hdg : decode cc pc = .ok (.iastore, 1))
    (kk : ∀ (H1 : Heap) (locs1 : List Loc), St P s (pI w h j x) H1 locs1 → W p l e R s m args below meth c H1 locs1 cells slots Q (F0 m (pc + 1) ls rest)) : W p l e R s m args below meth c H locs cells slots Q (F0 m pc ls (.int x :: .int i :: .ref (P.2.1 h) :: rest)) := by
  subst hj
  exact vt_iast S hF hP hh hs hi hdg kk
end VK
