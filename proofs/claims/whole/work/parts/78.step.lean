/-! A STEP -/
theorem ctP_le {ct : Nat} (h : ct ≤ 8) : ctP ct ≤ 8 := by
  unfold ctP
  split <;> omega
theorem hsP_ok {ct : Nat} {hs : Nat → Bd} {B : Bd} (hB : B.ok) (hok : ∀ i, i < ct → (hs i).ok) : ∀ i, i < ctP ct → (hsP ct hs B i).ok := by
  intro i hi
  unfold ctP at hi
  unfold hsP
  by_cases h8 : ct = 8
  · rw [if_pos h8] at hi ⊢
    show (if i = 7 then B else hs (i + 1)).ok
    by_cases h7 : i = 7
    · rw [if_pos h7]
      exact hB
    · rw [if_neg h7]
      exact hok _ (by omega)
  · rw [if_neg h8] at hi ⊢
    show (if i = ct then B else hs i).ok
    by_cases h7 : i = ct
    · rw [if_pos h7]
      exact hB
    · rw [if_neg h7]
      exact hok _ (by omega)
theorem pm_ok {A : Abs} {FM : Wo → Option (Int32 × Wo)} {val : Int32} {B' : Bd} (hA : Aok A) (hm : ∀ u, MB u 27 0 A.B → ∃ u', FM u = some (val, u') ∧ gI u' 26 14 = 0 ∧ MB u' 27 0 B' ∧ Kf [27, 33, 34] [14, 17] u u') : MO A (A.wb B' (ctP A.ct) (hsP A.ct A.hs A.B)) 0 val (PM FM) := by
  intro u hu
  have hB := hA.1
  obtain ⟨u1, a1, a2, a3⟩ := m_looksBack hB hu.1
  obtain ⟨u2, b1, b2, b3, b4⟩ := hm u1 (a3.mb (by decide) (by decide) hu.1)
  have hHu : HM u A.ct A.hs := hu.2.2.1
  have hk12 : Kf [27, 28, 33, 34] [14, 17] u u2 := a3.tr b4 (by decide) (by decide) (by decide) (by decide)
  obtain ⟨u3, c1, c2, c3⟩ := m_keptF (v := val) hB hA.2.2.1 b2 (hHu.kf hk12 (by decide) (by decide) (by decide)) hA.2.2.2.1 (b4.mb (by decide) (by decide) a2)
  have hk : Kf [27, 28, 29, 33, 34] [3, 14, 17] u u3 := hk12.tr c3 (by decide) (by decide) (by decide) (by decide)
  refine ⟨u3, ?_, (c3.1 26 14 (by decide) (fun _ => by decide)).trans b2, hu.wb hk (by decide) (by decide) (by decide) (c3.mb (by decide) (by decide) b3) c2, hk.agc (by decide), hk.2.1⟩
  unfold PM
  rw [a1, Option.bind_some, b1, Option.bind_some]
  show (F_X6_kept u2 val).bind _ = _
  rw [c1]
  rfl
theorem pm_fail {A : Abs} {FM : Wo → Option (Int32 × Wo)} {t : Int32} (hA : Aok A) (ht : t ≠ 0) (hm : ∀ u, MB u 27 0 A.B → ∃ u', FM u = some (0, pI (pI u' 26 14 t) 26 11 0) ∧ Kf [33, 34] [17] u u') : MO A A t 0 (PM FM) := by
  intro u hu
  have hB := hA.1
  obtain ⟨u1, a1, a2, a3⟩ := m_looksBack hB hu.1
  obtain ⟨u', b1, b2⟩ := hm u1 (a3.mb (by decide) (by decide) hu.1)
  obtain ⟨u2, hu2⟩ : ∃ u2, u2 = pI (pI u' 26 14 t) 26 11 0 := ⟨_, rfl⟩
  have hk0 : Kf [33, 34] [11, 14, 17] u1 u2 := by
    rw [hu2]
    exact b2.tr ((Kf.p26 (D := []) (F := [14]) (by decide)).tr (Kf.p26 (D := []) (F := [11]) (by decide)) (D := []) (F := [11, 14]) (by decide) (by decide) (by decide) (by decide)) (by decide) (by decide) (by decide) (by decide)
  have h14 : gI u2 26 14 = t := by
    rw [hu2, gI_pI, if_neg (by omega), pI_same]
  obtain ⟨u3, c1, c2, c3⟩ := m_keptT (v := 0) hB (by rw [h14]; exact ht) (hk0.mb (by decide) (by decide) a2)
  have hk : Kf [27, 28, 33, 34] [11, 14, 17] u u3 := (a3.tr hk0 (D := [28, 33, 34]) (F := [11, 14, 17]) (by decide) (by decide) (by decide) (by decide)).tr c3 (by decide) (by decide) (by decide) (by decide)
  have hHu : HM u A.ct A.hs := hu.2.2.1
  refine ⟨u3, ?_, (c3.1 26 14 (by decide) (fun _ => by decide)).trans h14, hu.wb (B := A.B) (ct := A.ct) (hs := A.hs) hk (by decide) (by decide) (by decide) c2 (hHu.kf hk (by decide) (by decide) (by decide)), hk.agc (by decide), hk.2.1⟩
  unfold PM
  rw [a1, Option.bind_some, b1, Option.bind_some, ← hu2]
  show (F_X6_kept u2 0).bind _ = _
  rw [c1]
  rfl
theorem pm_ref {A : Abs} {FM : Wo → Option (Int32 × Wo)} {t : Int32} {why : Nat} {det : Int32} (hA : Aok A) (ht : t ≠ 0) (hm : ∀ u, MB u 27 0 A.B → ∃ u', FM u = some (0, pI (pI (pI (pI u' 26 9 (nI why)) 26 10 det) 26 14 t) 26 11 1) ∧ Kf [33, 34] [17] u u') : MO A (A.wr why det) t 0 (PM FM) := by
  intro u hu
  have hB := hA.1
  obtain ⟨u1, a1, a2, a3⟩ := m_looksBack hB hu.1
  obtain ⟨u', b1, b2⟩ := hm u1 (a3.mb (by decide) (by decide) hu.1)
  obtain ⟨u2, hu2⟩ : ∃ u2, u2 = pI (pI (pI (pI u' 26 9 (nI why)) 26 10 det) 26 14 t) 26 11 1 := ⟨_, rfl⟩
  have hk0 : Kf [33, 34] [9, 10, 11, 14, 17] u1 u2 := by
    rw [hu2]
    exact b2.tr (((Kf.p26 (D := []) (F := [9]) (by decide)).tr (Kf.p26 (D := []) (F := [10]) (by decide)) (D := []) (F := [9, 10]) (by decide) (by decide) (by decide) (by decide)).tr ((Kf.p26 (D := []) (F := [14]) (by decide)).tr (Kf.p26 (D := []) (F := [11]) (by decide)) (D := []) (F := [11, 14]) (by decide) (by decide) (by decide) (by decide)) (D := []) (F := [9, 10, 11, 14]) (by decide) (by decide) (by decide) (by decide)) (by decide) (by decide) (by decide) (by decide)
  have h14 : gI u2 26 14 = t := by
    rw [hu2, gI_pI, if_neg (by omega), pI_same]
  have h9 : gI u2 26 9 = nI why := by
    rw [hu2, gI_pI, if_neg (by omega), gI_pI, if_neg (by omega), gI_pI, if_neg (by omega), pI_same]
  have h10 : gI u2 26 10 = det := by
    rw [hu2, gI_pI, if_neg (by omega), gI_pI, if_neg (by omega), pI_same]
  obtain ⟨u3, c1, c2, c3⟩ := m_keptT (v := 0) hB (by rw [h14]; exact ht) (hk0.mb (by decide) (by decide) a2)
  have hk : Kf [27, 28, 33, 34] [9, 10, 11, 14, 17] u u3 := (a3.tr hk0 (D := [28, 33, 34]) (F := [9, 10, 11, 14, 17]) (by decide) (by decide) (by decide) (by decide)).tr c3 (by decide) (by decide) (by decide) (by decide)
  refine ⟨u3, ?_, (c3.1 26 14 (by decide) (fun _ => by decide)).trans h14, hu.wr hk (by decide) (by decide) (by decide) c2 ((c3.1 26 9 (by decide) (fun _ => by decide)).trans h9) ((c3.1 26 10 (by decide) (fun _ => by decide)).trans h10), hk.agc (by decide), hk.2.1⟩
  unfold PM
  rw [a1, Option.bind_some, b1, Option.bind_some, ← hu2]
  show (F_X6_kept u2 0).bind _ = _
  rw [c1]
  rfl
/-- the board behind a step -/
def stB (B : Bd) (t : Nat) : Bd := mkB B.r B.c (tn B t B.cell) B.goal B.bar (updC (handT B t).cn 5 ((handT B t).cn 5 + 1))
def prB (B : Bd) : Bd := mkB B.r B.c B.cell B.goal B.bar (updC B.cn 5 (B.cn 5 + 1))
theorem pr_st (B : Bd) (t : Nat) : handT (prB B) t = stB B t := by
  unfold handT stB
  have hg : gain (prB B) t = gain B t := rfl
  rw [hg]
  show mkB B.r B.c (tn B t B.cell) B.goal B.bar _ = _
  congr 1
  funext j
  by_cases h7 : j = 7
  · subst h7
    rfl
  · by_cases h2 : j = 2
    · subst h2
      rfl
    · by_cases h5 : j = 5
      · subst h5
        rfl
      · have e1 : updC (updC (prB B).cn 2 ((prB B).cn 2 + 1)) 7 ((prB B).cn 7 + bI (gain B t)) j = B.cn j := by
          unfold updC
          rw [if_neg h7, if_neg h2]
          exact if_neg h5
        have e2 : updC (handT B t).cn 5 ((handT B t).cn 5 + 1) j = B.cn j := by
          unfold updC
          rw [if_neg h5]
          show (if j = 7 then (B.cn 7 + bI (gain B t)) else if j = 2 then (B.cn 2 + 1) else B.cn j) = B.cn j
          rw [if_neg h7, if_neg h2]
        exact e1.trans e2.symm
theorem K_7 {w : Wo} (hI : Inv w) (x1 x2 x3 : Int32) : ∃ w', F_K_7 w x1 x2 x3 = some w' ∧ Inv w' := by
  obtain ⟨A, hA, hC, hM⟩ := hI
  have hB := hA.1
  have hd := dims hB
  have ho := opn_lt hB
  have hl := shl_le A.B A.B.cell
  have hh : homes A.B A.B.cell ≤ A.B.n := cnt_le _ _
  have mst : ∀ u, MB u 27 0 A.B → ∃ u1, Keep [33] u u1 ∧ F_X6_steps u = (if homes A.B A.B.cell = A.B.n then (F_X6_refused u1 5 (nI A.B.n) 1).bind fun q => some (q.1, q.2) else ((F_X6_isOutOfReach u1).bind fun q5 => (if q5.1 = 0 then ((F_X6_shortest q5.2).bind fun q7 => (if q7.1 = ((-1) : Int32) then ((F_X6_fails q7.2 2).bind fun q13 => (some ((q13.1, q13.2)))) else ((F_X6_makesByHand q7.2 (gI q7.2 26 17)).bind fun q9 => (B_X6_steps_79 (pI q9.2 27 5 ((gI q9.2 27 5) + (1 : Int32))) (gI q7.2 26 17))))) else ((F_X6_places q5.2).bind fun q15 => ((F_X6_refused q5.2 4 (q15 - nI (homes A.B A.B.cell)) 1).bind fun q17 => (some ((q17.1, q17.2)))))))) := by
    intro u hu
    obtain ⟨u1, g1, g2⟩ := m_homes hB hu
    refine ⟨u1, g2, ?_⟩
    unfold F_X6_steps
    rw [g1, Option.bind_some]
    have hp : F_X6_places (nI (homes A.B A.B.cell), u1).2 = some (nI A.B.n) := m_places (B := A.B) (g2.mb (by decide) hu)
    rw [hp, Option.bind_some, Option.bind_some]
    show (if nI (homes A.B A.B.cell) = nI A.B.n then _ else _) = _
    rw [iteq (by omega) (by omega)]
  have cj : F_X5_judgeStep w = (if homes A.B A.B.cell = A.B.n then (F_X5_refuse w 5 (nI A.B.n)).bind (fun q => some (q.1, q.2)) else if outB A.B = true then (F_X5_refuse w 4 (nI (A.B.n - homes A.B A.B.cell))).bind (fun q => some (q.1, q.2)) else some (0, w)) := by
    unfold F_X5_judgeStep
    rw [c_reached hB hC.1, Option.bind_some, itb0, c_out hB hC.1, Option.bind_some, itb0, c_atHome hB hC.1 hC.1.2.2.1, Option.bind_some, c_places hB hC.1, pk_sub hh]
    by_cases h1 : homes A.B A.B.cell = A.B.n
    · rw [if_pos h1, decide_eq_true h1, if_pos rfl]
    · rw [if_neg h1, decide_eq_false h1, if_neg (by decide)]
  by_cases h1 : homes A.B A.B.cell = A.B.n
  · refine fin_i (FL := F_L_step w) (FM := fun u => F_X6_step u) (A' := A.wr 5 (nI A.B.n)) (k := 1) (v := 0) (w1 := pI (pI w 0 10 (nI 5)) 0 11 (nI A.B.n)) hM (hA.wr (by decide)) ?_ (hC.wr (by decide)) ((AgM.pI (by omega)).tr (AgM.pI (by omega))) (pm_ref (FM := F_X6_steps) hA (by decide) (fun u hu => ?_))
    · unfold F_L_step F_X5_step
      rw [cj, if_pos h1]
      rfl
    · obtain ⟨u1, g1, g2⟩ := mst u hu
      refine ⟨u1, ?_, (g1.kf (F := [])).mono (by decide) (by decide)⟩
      rw [g2, if_pos h1]
      rfl
  · rw [if_neg h1] at cj
    by_cases h2 : outB A.B = true
    · refine fin_i (FL := F_L_step w) (FM := fun u => F_X6_step u) (A' := A.wr 4 (nI (A.B.n - homes A.B A.B.cell))) (k := 1) (v := 0) (w1 := pI (pI w 0 10 (nI 4)) 0 11 (nI (A.B.n - homes A.B A.B.cell))) hM (hA.wr (by decide)) ?_ (hC.wr (by decide)) ((AgM.pI (by omega)).tr (AgM.pI (by omega))) (pm_ref (FM := F_X6_steps) hA (by decide) (fun u hu => ?_))
      · unfold F_L_step F_X5_step
        rw [cj, if_pos h2]
        rfl
      · obtain ⟨u1, g1, g2⟩ := mst u hu
        have hu1 := g1.mb (by decide) hu
        obtain ⟨u2, k1, k2⟩ := m_out hB hu1
        refine ⟨u2, ?_, (g1.kf (F := [])).tr (k2.kf (F := [])) (by decide) (by decide) (by decide) (by decide)⟩
        rw [g2, if_neg h1, k1, Option.bind_some, h2]
        show (if bI true = 0 then _ else (F_X6_places u2).bind _) = _
        rw [if_neg (show ¬ bI true = 0 by decide), show F_X6_places u2 = some (nI A.B.n) from m_places (B := A.B) (k2.mb (by decide) hu1), Option.bind_some, pk_sub hh]
        rfl
    · rw [if_neg h2] at cj
      rw [Bool.not_eq_true] at h2
      obtain ⟨w1, s1, s2, s3, s4⟩ := c_search hB hC.1
      have hs0 : shl A.B A.B.cell ≠ 0 := by
        intro e
        have := shl_R (B := A.B) (f := A.B.cell) (by omega)
        rw [e] at this
        have this : met A.B A.B.cell = true := this
        exact h1 (of_decide_eq_true this)
      have mst2 : ∀ u, MB u 27 0 A.B → ∃ u3, Kf [33, 34] [17] u u3 ∧ (shl A.B A.B.cell < 4 → gI u3 26 17 = shf A.B A.B.cell) ∧ F_X6_steps u = (if (if shl A.B A.B.cell = 4 then (-1 : Int32) else nI (shl A.B A.B.cell)) = -1 then ((F_X6_fails u3 2).bind fun q13 => (some ((q13.1, q13.2)))) else ((F_X6_makesByHand u3 (gI u3 26 17)).bind fun q9 => (B_X6_steps_79 (pI q9.2 27 5 ((gI q9.2 27 5) + (1 : Int32))) (gI u3 26 17)))) := by
        intro u hu
        obtain ⟨u1, g1, g2⟩ := mst u hu
        have hu1 := g1.mb (by decide) hu
        obtain ⟨u2, k1, k2⟩ := m_out hB hu1
        have hu2 := k2.mb (by decide) hu1
        obtain ⟨u3, l1, l2, l3⟩ := m_shortest hB hu2
        refine ⟨u3, ((g1.kf (F := [])).tr (k2.kf (F := [])) (D := [33, 34]) (F := []) (by decide) (by decide) (by decide) (by decide)).tr l2 (by decide) (by decide) (by decide) (by decide), l3, ?_⟩
        rw [g2, if_neg h1, k1, Option.bind_some, h2]
        show ((F_X6_shortest u2).bind _) = _
        rw [l1, Option.bind_some]
      have cst : F_X5_step w = (F_X1_search w).bind fun q5 => (if 0 ≤ (gI q5 14 7) then ((F_X2_keep 1 q5).bind fun q6 => (B_X5_step_64 (pI q6 1 8 ((gI q6 1 8) + (1 : Int32))) (gI q5 14 7))) else (some (.inl (4, q5)))) := by
        unfold F_X5_step
        rw [cj]
        rfl
      by_cases h4 : shl A.B A.B.cell = 4
      · have es : shf A.B A.B.cell = -1 := by unfold shf; rw [if_pos (Or.inr h4)]
        refine fin_i (FL := F_L_step w) (FM := fun u => F_X6_step u) (A' := A) (k := 2) (v := 0) (w1 := w1) hM hA ?_ (hC.kd s2 (by decide)) (s2.agm (by decide)) (pm_fail (FM := F_X6_steps) hA (by decide) (fun u hu => ?_))
        · unfold F_L_step
          rw [cst, s1, Option.bind_some, s4, es, if_neg (by decide)]
          rfl
        · obtain ⟨u3, l1, l2, l3⟩ := mst2 u hu
          refine ⟨u3, ?_, l1⟩
          rw [l3, if_pos h4, if_pos rfl]
          rfl
      · obtain ⟨t, hti⟩ : ∃ t, t = ft A.B (shl A.B A.B.cell - 1) A.B.cell := ⟨_, rfl⟩
        have es : shf A.B A.B.cell = nI t := by
          unfold shf
          rw [if_neg (by omega), hti]
        have htl : t < Tn A.B := by
          have hR := shl_R (B := A.B) (f := A.B.cell) (by omega)
          obtain ⟨j, hj⟩ : ∃ j, shl A.B A.B.cell = j + 1 := ⟨shl A.B A.B.cell - 1, by omega⟩
          rw [hj] at hR hti
          rw [hti]
          exact fst_ex hR
        have hC1 := hC.kd s2 (by decide)
        have hH1 : HC w1 A.ct A.hs := hC1.2.2.1
        obtain ⟨w2, g1, g2, g3⟩ := c_keep (h := 1) (Or.inl rfl) hH1 hA.2.2.1 hC1.1
        have hcb2 := g3.cb (by decide) hC1.1
        have e8 : gI w2 1 8 = A.B.cn 5 := hcb2.2.2.2.2.2 5 (by decide) (by decide)
        have hcb3 : CB (pI w2 1 8 (A.B.cn 5 + 1)) 1 (prB A.B) := hcb2.setC (i := 5) (by decide) (by decide)
        have hBp : (prB A.B).ok := ⟨hB.1, hB.2.1, hB.2.2.1, hB.2.2.2.1, hB.2.2.2.2⟩
        obtain ⟨w3, k1, k2, k3⟩ := c_turnToGoal hBp hcb3 (t := t) htl
        rw [pr_st] at k2
        have hk23 : Kd [1] w2 w3 := (Kd.pI (D := [1]) (by decide)).tr k3 (fun _ h => h) (fun _ h => h)
        have hkd : Kd (1 :: 14 :: 15 :: 16 :: 17 :: 18 :: rgD) w w3 := (s2.tr g3 (D := 14 :: 15 :: 16 :: 17 :: 18 :: rgD) (by decide) (by decide)).tr hk23 (by decide) (by decide)
        have hst : (stB A.B t).ok := ⟨hB.1, hB.2.1, fun p hp => hB.2.2.1 _ (bk_lt hB htl hp), hB.2.2.2.1, hB.2.2.2.2⟩
        refine fin_i (FL := F_L_step w) (FM := fun u => F_X6_step u) (A' := A.wb (stB A.B t) (ctP A.ct) (hsP A.ct A.hs A.B)) (k := 0) (v := nI t) (w1 := w3) hM (hA.wb hst (ctP_le hA.2.2.1) (hsP_ok hB hA.2.2.2.1)) ?_ (hC.wb hkd (by decide) k2 (g2.kd hk23 (by decide))) (hkd.agm (by decide)) (pm_ok (FM := F_X6_steps) hA (fun u hu => ?_))
        · unfold F_L_step
          rw [cst, s1, Option.bind_some, s4, es, if_pos (nI_pos' (by omega)), g1, Option.bind_some, e8, B_X5_step_64, k1]
          rfl
        · obtain ⟨u3, l1, l2, l3⟩ := mst2 u hu
          have hu3 := l1.mb (by decide) (by decide) hu
          have e17 : gI u3 26 17 = nI t := (l2 (by omega)).trans es
          obtain ⟨u4, n1, n2, n3⟩ := m_byHand hB hu3 htl
          have e5 : gI u4 27 5 = (handT A.B t).cn 5 := n2.2.2.2.2.2 5 (by decide) (by decide)
          have n4 : MB (pI u4 27 5 ((handT A.B t).cn 5 + 1)) 27 0 (stB A.B t) := n2.setC (i := 5) (by decide) (by decide)
          refine ⟨pI (pI u4 27 5 ((handT A.B t).cn 5 + 1)) 26 14 0, ?_, pI_same, n4.p26, ((l1.tr n3 (D := [27, 33, 34]) (F := [17]) (by decide) (by decide) (by decide) (by decide)).tr (Kf.pI (D := [27]) (F := []) (by decide)) (D := [27, 33, 34]) (F := [17]) (by decide) (by decide) (by decide) (by decide)).tr (Kf.p26 (D := []) (F := [14]) (by decide)) (by decide) (by decide) (by decide) (by decide)⟩
          rw [l3, if_neg h4, itm1 (by omega), e17, n1, Option.bind_some]
          show B_X6_steps_79 (pI u4 27 5 (gI u4 27 5 + 1)) (nI t) = _
          rw [e5]
          rfl
