/-! A TEXT CARRIED OUT, OF THE CLASS ALONE -/
section EXC
variable {tl : Nat} {cn : Nat → Nat} {n : Nat}
theorem ex_step (hn : n ≤ 21) {k : Nat} (hkn : k < n) {q : Nat × Nat × Nat × Nat × Nat} (hq : rd tl cn (pos tl cn k) = .inr q) {cw : Wo} {F : Nat} (hR : CR tl cn n cw) : jl2 B_X5_carryOutAll_13 (F + 1) cw (nI k) = ((F_X5_judge cw (nI q.2.1) (nI q.2.2.1) (nI q.2.2.2.1)).bind fun q9 => (if q9.1 = 0 then ((F_X4_kindOf q9.2 (nI k)).bind fun q11 => ((F_X4_oneOf q9.2 (nI k)).bind fun q13 => ((F_X4_otherOf q9.2 (nI k)).bind fun q15 => ((F_X5_carryOut q9.2 q11 q13 q15).bind fun q17 => (jl2 B_X5_carryOutAll_13 F q17 (nI k + 1)))))) else (B_X5_carryOutAll_57 q9.2 q9.1))) := by
  have hr := hR.2 k hkn q hq
  obtain ⟨c1, c2, c3⟩ := c_kinds (w := cw) (i := k) (by omega)
  show B_X5_carryOutAll_13 (jl2 B_X5_carryOutAll_13 F) cw (nI k) = _
  rw [B_X5_carryOutAll_13, hR.1, if_neg (nI_ge hkn (by omega)), c1, Option.bind_some, c2, Option.bind_some, c3, Option.bind_some, hr.1, hr.2.1, hr.2.2]
theorem ex_next (hn : n ≤ 21) {k : Nat} (hkn : k < n) {q : Nat × Nat × Nat × Nat × Nat} (hq : rd tl cn (pos tl cn k) = .inr q) {cw : Wo} {F : Nat} {B B' : Bd} (hY : Yes B (nI q.2.1) (nI q.2.2.1) (nI q.2.2.2.1) B') (hC : CB cw 1 B) (hR : CR tl cn n cw) : ∃ cw', jl2 B_X5_carryOutAll_13 (F + 1) cw (nI k) = jl2 B_X5_carryOutAll_13 F cw' (nI (k + 1)) ∧ CB cw' 1 B' ∧ Kd [1] cw cw' ∧ CR tl cn n cw' := by
  obtain ⟨h1, cw', h2, h3, h4⟩ := hY cw hC
  have hr := hR.2 k hkn q hq
  obtain ⟨c1, c2, c3⟩ := c_kinds (w := cw) (i := k) (by omega)
  refine ⟨cw', ?_, h3, h4, hR.kd h4 (by decide) (by decide) (by decide) (by decide)⟩
  rw [ex_step hn hkn hq hR, h1, Option.bind_some]
  show ((F_X4_kindOf cw (nI k)).bind fun q11 => ((F_X4_oneOf cw (nI k)).bind fun q13 => ((F_X4_otherOf cw (nI k)).bind fun q15 => ((F_X5_carryOut cw q11 q13 q15).bind fun q17 => (jl2 B_X5_carryOutAll_13 F q17 (nI k + 1)))))) = _
  rw [c1, Option.bind_some, c2, Option.bind_some, c3, Option.bind_some, hr.1, hr.2.1, hr.2.2, h2, Option.bind_some, nI_1]
/-- the orders from k to m are carried out, one after another -/
theorem ex_to (hn : n ≤ 21) {Bs : Nat → Bd} {m : Nat} (hm : m ≤ n) (hst : ∀ j, j < m → ∃ q, rd tl cn (pos tl cn j) = .inr q ∧ Yes (Bs j) (nI q.2.1) (nI q.2.2.1) (nI q.2.2.2.1) (Bs (j + 1))) : ∀ (d k : Nat), k + d = m → ∀ (cw : Wo) (F : Nat), n - k < F → CB cw 1 (Bs k) → CR tl cn n cw → ∃ (cw' : Wo) (F' : Nat), jl2 B_X5_carryOutAll_13 F cw (nI k) = jl2 B_X5_carryOutAll_13 F' cw' (nI m) ∧ n - m < F' ∧ CB cw' 1 (Bs m) ∧ Kd [1] cw cw' ∧ CR tl cn n cw'
  | 0, k, hk, cw, F, hF, hC, hR => by
    obtain rfl : k = m := by omega
    exact ⟨cw, F, rfl, hF, hC, Kd.rf, hR⟩
  | d + 1, k, hk, cw, F, hF, hC, hR => by
    obtain ⟨F, rfl⟩ : ∃ F', F = F' + 1 := ⟨F - 1, by omega⟩
    obtain ⟨q, hq, hY⟩ := hst k (by omega)
    obtain ⟨cw1, e1, e2, e3, e4⟩ := ex_next hn (by omega) hq (F := F) hY hC hR
    obtain ⟨cw2, F2, g1, g2, g3, g4, g5⟩ := ex_to hn hm hst d (k + 1) (by omega) cw1 F (by omega) e2 e4
    exact ⟨cw2, F2, e1.trans g1, g2, g3, e3.tr g4 (fun _ h => h) (fun _ h => h), g5⟩
end EXC
/-- the input holds this text -/
def Tin (A : Abs) (cs : List Nat) : Prop := A.tl = cs.length ∧ ∀ i, i < cs.length → A.ip i = nI (cs.getD i 0)
abbrev cnf (cs : List Nat) : Nat → Nat := fun i => cs.getD i 0
theorem txt_of {cs : List Nat} (h : ascii cs) (h60 : cs.length ≤ 60) : Txt cs.length (cnf cs) := ⟨h60, fun i hi => Nat.lt_trans (h.at i) (by decide)⟩
section RUNC
variable {w : Wo} {A : Abs} {cs : List Nat}
theorem run_go (hC : CI w A) (hi : Tin A cs) (ha : ascii cs) (h60 : cs.length ≤ 60) : ∃ (W : Wo) (er : Int32), (∀ e, pe cs.length (cnf cs) = some e → er = nI e) ∧ (pe cs.length (cnf cs) = none → er = -1) ∧ CI W (A.fn er) ∧ gI W 0 9 = er ∧ F_X5_run w = B_X5_run_24 W ∧ (pe cs.length (cnf cs) = none → CR cs.length (cnf cs) (NN cs.length (cnf cs) + 1) W) := by
  have hT := txt_of ha h60
  obtain ⟨w1, r1, r2, r3⟩ := c_read (w := w) hT (fun i hi9 => ((hC.2.2.2.1.2 i (by rw [hi.1]; exact hi9))).trans (hi.2 i hi9))
  have h8 : gI w 0 8 = nI cs.length := by rw [← hi.1]; exact hC.2.2.2.1.1
  obtain ⟨er, r1, hers, hern⟩ : ∃ er : Int32, F_X4_read w (nI cs.length) = some (er, w1) ∧ (∀ e, pe cs.length (cnf cs) = some e → er = nI e) ∧ (pe cs.length (cnf cs) = none → er = -1) := ⟨_, r1, fun e h => by rw [h], fun h => by rw [h]⟩
  refine ⟨pI (pI w1 0 9 er) 0 8 0, er, hers, hern, hC.fn r2, ?_, ?_, fun e => ?_⟩
  · rw [gI_pI, if_neg (by omega), pI_same]
  · unfold F_X5_run B_X5_run_19
    rw [h8, r1, Option.bind_some]
  · obtain ⟨e1, e2⟩ := r3 e
    have hc : CR cs.length (cnf cs) (NN cs.length (cnf cs) + 1) w1 := ⟨e1, fun j hj => e2 j (by omega)⟩
    exact hc.kd ((Kd.pI (D := [0]) (by decide)).tr (Kd.pI (D := [0]) (by decide)) (D := [0]) (fun _ h => h) (fun _ h => h)) (by decide) (by decide) (by decide) (by decide)
theorem run_bad (hC : CI w A) (hi : Tin A cs) (ha : ascii cs) (h60 : cs.length ≤ 60) {e : Nat} (he : pe cs.length (cnf cs) = some e) (h1 : e < 1000) : ∃ W, F_X5_run w = some (.inl (2, W)) ∧ CI W (A.fn (nI e)) := by
  obtain ⟨W, er, z1, -, z3, z4, z5, -⟩ := run_go hC hi ha h60
  obtain rfl := z1 e he
  refine ⟨W, ?_, z3⟩
  rw [z5, B_X5_run_24, z4, if_pos (nI_pos' (by omega))]
  rfl
/-- the orders stand; they are tried on a copy -/
theorem run_try (hC : CI w A) (hi : Tin A cs) (ha : ascii cs) (h60 : cs.length ≤ 60) (hp : pe cs.length (cnf cs) = none) {n : Nat} (hn : NN cs.length (cnf cs) + 1 = n) : ∃ W W2, CI W (A.fn (-1)) ∧ CB W2 1 A.B ∧ CB W2 2 A.B ∧ Kd [2] W W2 ∧ CR cs.length (cnf cs) n W ∧ CR cs.length (cnf cs) n W2 ∧ n ≤ 21 ∧ F_X5_run w = (jl2 B_X5_carryOutAll_13 fu W2 (nI 0)).bind fun q5 => B_X5_run_39 q5.2 q5.1 := by
  obtain ⟨W, er, -, z2, z3, z4, z5, z6⟩ := run_go hC hi ha h60
  obtain rfl := z2 hp
  have hR := z6 hp
  rw [hn] at hR
  obtain ⟨W2, g1, g2, g3⟩ := c_copy (h0 := 2) (h1 := 1) (by omega) z3.1
  have k2 : Kd [2] W W2 := g3.kd (by decide)
  have n1 := (NN_ok (txt_of ha h60)).1
  refine ⟨W, W2, z3, k2.cb (by decide) z3.1, g2, k2, hR, hR.kd k2 (by decide) (by decide) (by decide) (by decide), by omega, ?_⟩
  rw [z5, B_X5_run_24, z4, if_neg (by decide), F_X5_carryOutAll, g1, Option.bind_some]
  rfl
theorem run_yes (hA : Aok A) (hC : CI w A) (hi : Tin A cs) (ha : ascii cs) (h60 : cs.length ≤ 60) (hp : pe cs.length (cnf cs) = none) {n : Nat} (hn : NN cs.length (cnf cs) + 1 = n) {Bs : Nat → Bd} (h0 : Bs 0 = A.B) (hst : ∀ j, j < n → ∃ q, rd cs.length (cnf cs) (pos cs.length (cnf cs) j) = .inr q ∧ Yes (Bs j) (nI q.2.1) (nI q.2.2.1) (nI q.2.2.2.1) (Bs (j + 1))) : ∃ w', F_X5_run w = some (.inr (nI n, w')) ∧ CI w' ((A.fn (-1)).push (Bs n)) := by
  obtain ⟨W, W2, z1, z2, z3, z4, z5, z6, z7, z8⟩ := run_try hC hi ha h60 hp hn
  rw [← h0] at z2
  obtain ⟨W3, F3, g1, g2, g3, g4, g5⟩ := ex_to z7 (Nat.le_refl n) hst n 0 (by omega) W2 fu (by rw [fu4]; omega) z2 z6
  obtain ⟨F3, rfl⟩ : ∃ F', F3 = F' + 1 := ⟨F3 - 1, by omega⟩
  have hH : HC W A.ct A.hs := z1.2.2.1
  have hkd1 : Kd [1, 2] W W3 := z4.tr g4 (by decide) (by decide)
  obtain ⟨w4, k1, k4, k3⟩ := c_keep (h := 2) (Or.inr rfl) (hH.kd hkd1 (by decide)) hA.2.2.1 (g4.cb (by decide) z3)
  have hkd : Kd (1 :: 2 :: rgD) W w4 := hkd1.tr k3 (by decide) (by decide)
  have e21 : gI w4 21 6 = nI n := (hkd 21 6 (by decide)).1.trans z5.1
  refine ⟨w4, ?_, z1.wb hkd (by decide) (k3.cb (by decide) g3) k4⟩
  have e13 : jl2 B_X5_carryOutAll_13 (F3 + 1) W3 (nI n) = B_X5_carryOutAll_104 W3 := by
    show B_X5_carryOutAll_13 _ W3 (nI n) = _
    rw [B_X5_carryOutAll_13, g5.1, if_pos (nI_le (by omega) (by omega))]
  rw [z8, g1, e13, B_X5_carryOutAll_104, k1, ← e21]
  rfl
theorem run_no (hA : Aok A) (hC : CI w A) (hi : Tin A cs) (ha : ascii cs) (h60 : cs.length ≤ 60) (hp : pe cs.length (cnf cs) = none) {n m v : Nat} (hn : NN cs.length (cnf cs) + 1 = n) (hm : m < n) (hv : v = 1 ∨ v = 2) {Bs : Nat → Bd} (h0 : Bs 0 = A.B) (hst : ∀ j, j < m → ∃ q, rd cs.length (cnf cs) (pos cs.length (cnf cs) j) = .inr q ∧ Yes (Bs j) (nI q.2.1) (nI q.2.2.1) (nI q.2.2.2.1) (Bs (j + 1))) (hN : ∃ q, rd cs.length (cnf cs) (pos cs.length (cnf cs) m) = .inr q ∧ Not (Bs m) (nI q.2.1) (nI q.2.2.1) (nI q.2.2.2.1) v) : ∃ w', F_X5_run w = some (.inl (2, w')) ∧ CI w' ((A.fn (-1)).wb A.B A.ct A.hs) := by
  obtain ⟨W, W2, z1, z2, z3, z4, z5, z6, z7, z8⟩ := run_try hC hi ha h60 hp hn
  rw [← h0] at z2
  obtain ⟨W3, F3, g1, g2, g3, g4, g5⟩ := ex_to z7 (Nat.le_of_lt hm) hst m 0 (by omega) W2 fu (by rw [fu4]; omega) z2 z6
  obtain ⟨F3, rfl⟩ : ∃ F', F3 = F' + 1 := ⟨F3 - 1, by omega⟩
  obtain ⟨q, hq, hN⟩ := hN
  have hH : HC W A.ct A.hs := z1.2.2.1
  have hkd1 : Kd [1, 2] W W3 := z4.tr g4 (by decide) (by decide)
  obtain ⟨w4, k1, k4, k3⟩ := c_copy (h0 := 1) (h1 := 2) (by omega) (g4.cb (by decide) z3)
  have hkd : Kd [1, 2] W w4 := hkd1.tr (k3.kd (D := [1]) (by decide)) (by decide) (by decide)
  refine ⟨w4, ?_, z1.wb hkd (by decide) k4 (hH.kd hkd (by decide))⟩
  rw [z8, g1, ex_step z7 hm hq g5, hN W3 g3, Option.bind_some]
  show ((if nI v = 0 then _ else B_X5_carryOutAll_57 W3 (nI v)).bind _) = _
  rw [if_neg (nI_ne0 (by omega) (by omega)), B_X5_carryOutAll_57, k1]
  rcases hv with rfl | rfl <;> rfl
theorem run_ref (hA : Aok A) (hC : CI w A) (hi : Tin A cs) (ha : ascii cs) (h60 : cs.length ≤ 60) (hp : pe cs.length (cnf cs) = none) {n m why : Nat} {det : Int32} (hn : NN cs.length (cnf cs) + 1 = n) (hm : m < n) (hw : 0 < why) {Bs : Nat → Bd} (h0 : Bs 0 = A.B) (hst : ∀ j, j < m → ∃ q, rd cs.length (cnf cs) (pos cs.length (cnf cs) j) = .inr q ∧ Yes (Bs j) (nI q.2.1) (nI q.2.2.1) (nI q.2.2.2.1) (Bs (j + 1))) (hN : ∃ q, rd cs.length (cnf cs) (pos cs.length (cnf cs) m) = .inr q ∧ Ref (Bs m) (nI q.2.1) (nI q.2.2.1) (nI q.2.2.2.1) why det) : ∃ w', F_X5_run w = some (.inl (3, w')) ∧ CI w' (((A.fn (-1)).wr why det).wb A.B A.ct A.hs) := by
  obtain ⟨W, W2, z1, z2, z3, z4, z5, z6, z7, z8⟩ := run_try hC hi ha h60 hp hn
  rw [← h0] at z2
  obtain ⟨W3, F3, g1, g2, g3, g4, g5⟩ := ex_to z7 (Nat.le_of_lt hm) hst m 0 (by omega) W2 fu (by rw [fu4]; omega) z2 z6
  obtain ⟨F3, rfl⟩ : ∃ F', F3 = F' + 1 := ⟨F3 - 1, by omega⟩
  obtain ⟨q, hq, hN⟩ := hN
  have hkd1 : Kd [1, 2] W W3 := z4.tr g4 (by decide) (by decide)
  have hk0 : Kd [0] W3 (pI (pI W3 0 10 (nI why)) 0 11 det) := (Kd.pI (D := [0]) (by decide)).tr (Kd.pI (D := [0]) (by decide)) (fun _ h => h) (fun _ h => h)
  obtain ⟨w4, k1, k4, k3⟩ := c_copy (h0 := 1) (h1 := 2) (by omega) (hk0.cb (by decide) (g4.cb (by decide) z3))
  have hkd : Kd [1, 2] (pI (pI W 0 10 (nI why)) 0 11 det) w4 := fun a b ha => by
    have ha1 : a ≠ 1 := fun e => ha (by rw [e]; decide)
    obtain ⟨p1, p2⟩ := k3 a b ha1
    obtain ⟨q1, q2⟩ := hkd1 a b ha
    exact ⟨by rw [p1]; simp only [gI_pI, q1], p2.trans q2⟩
  have hC3 : CI (pI (pI W 0 10 (nI why)) 0 11 det) ((A.fn (-1)).wr why det) := z1.wr hw
  have hH3 : HC (pI (pI W 0 10 (nI why)) 0 11 det) A.ct A.hs := hC3.2.2.1
  refine ⟨w4, ?_, hC3.wb hkd (by decide) k4 (hH3.kd hkd (by decide))⟩
  rw [z8, g1, ex_step z7 hm hq g5, hN W3 g3, Option.bind_some]
  show ((if (3 : Int32) = 0 then _ else B_X5_carryOutAll_57 (pI (pI W3 0 10 (nI why)) 0 11 det) 3).bind _) = _
  rw [if_neg (by decide), B_X5_carryOutAll_57, k1]
  rfl
end RUNC
