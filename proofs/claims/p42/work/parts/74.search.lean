/-! THE CLASS'S SEARCH -/
theorem en2 {o : Nat → Bool} {P : Nat → Nat → Bool} {q : Nat → Bool} {T m : Nat} (hm : m = cnt o T) (h : ∀ t1, t1 < T → o t1 = true → ∀ t2, t2 < T → o t2 = true → q (cnt o t1 * m + cnt o t2) = P t1 t2) :
    exb q (m * m) = exb (fun t1 => o t1 && exb (fun t2 => o t2 && P t1 t2) T) T ∧ (fst1 q (m * m) < m * m → ∃ t, t < T ∧ o t = true ∧ fst1 (fun t1 => o t1 && exb (fun t2 => o t2 && P t1 t2) T) T = t ∧ ∃ t2, t2 < T ∧ o t2 = true ∧ fst1 q (m * m) = cnt o t * m + cnt o t2) := by
  have hin : ∀ t1, t1 < T → o t1 = true → (fun i => exb (fun j => q (i * m + j)) m) (cnt o t1) = exb (fun t2 => o t2 && P t1 t2) T := by
    intro t1 h1 h2
    show exb (fun j => q (cnt o t1 * m + j)) m = _
    have := en_exb (o := o) (P := fun t2 => P t1 t2) (Q := fun j => q (cnt o t1 * m + j)) (T := T) (fun t2 h3 h4 => h t1 h1 h2 t2 h3 h4)
    rw [← hm] at this
    exact this
  rcases Nat.eq_zero_or_pos m with h0 | h0
  · have e : exb (fun t1 => o t1 && exb (fun t2 => o t2 && P t1 t2) T) T = false := by
      rw [exb_false]
      intro t ht
      by_cases ho : o t = true
      · have := cnt_lt_at ht ho
        omega
      · rw [Bool.not_eq_true] at ho
        show (o t && _) = false
        rw [ho]
        rfl
    rw [e, h0]
    exact ⟨rfl, fun hlt => absurd hlt (Nat.not_lt_zero _)⟩
  · have e1 := exb_blk (q := q) (T := m) (U := m) h0
    have e2 := en_exb (o := o) (P := fun t1 => exb (fun t2 => o t2 && P t1 t2) T) (Q := fun i => exb (fun j => q (i * m + j)) m) (T := T) hin
    rw [← hm] at e2
    refine ⟨e1.trans e2, fun hlt => ?_⟩
    have e3 := fst1_blk (q := q) (T := m) (U := m) h0
    have hd : fst1 q (m * m) / m < m := (Nat.div_lt_iff_lt_mul h0).mpr hlt
    have hf : fst1 (fun i => exb (fun j => q (i * m + j)) m) (cnt o T) < cnt o T := by
      rw [← hm, ← e3]
      exact hd
    obtain ⟨t, a, b, c, d⟩ := en_fst (o := o) (P := fun t1 => exb (fun t2 => o t2 && P t1 t2) T) (Q := fun i => exb (fun j => q (i * m + j)) m) (T := T) hin hf
    rw [← hm, ← e3] at c
    have hmod : fst1 q (m * m) % m < cnt o T := by
      rw [← hm]
      exact Nat.mod_lt _ h0
    obtain ⟨t2, a2, b2, c2⟩ := cnt_surj hmod
    refine ⟨t, a, b, d, t2, a2, b2, ?_⟩
    rw [c, c2]
    have e := Nat.div_add_mod (fst1 q (m * m)) m
    rw [Nat.mul_comm m (fst1 q (m * m) / m)] at e
    exact e.symm
theorem fst_ex {q : Nat → Bool} {n : Nat} (h : exb q n = true) : fst1 q n < n := by
  rw [exb_fst] at h
  exact of_decide_eq_true h
theorem fst_no {q : Nat → Bool} {n : Nat} (h : exb q n = false) : ¬ fst1 q n < n := by
  rw [exb_fst] at h
  exact of_decide_eq_false h
theorem c_search {w : Wo} {B : Bd} (hB : B.ok) (hC : CB w 1 B) : ∃ w', F_X1_search w = some w' ∧ Kd [14, 15, 16, 17, 18] w w' ∧ gI w' 14 6 = nI (shl B B.cell) ∧ gI w' 14 7 = shf B B.cell := by
  have hd := dims hB
  have ho := opn_lt hB
  have hmm := mm_le hB
  have hsq : mm B * mm B ≤ 12 * 12 := Nat.mul_le_mul hmm hmm
  -- the start, the goals
  obtain ⟨W0, hW0⟩ : ∃ W0, W0 = pI (pI w 14 6 4) 14 7 (-1) := ⟨_, rfl⟩
  have k0 : Kd [14] w W0 := by
    rw [hW0]
    exact (Kd.pI (D := [14]) (by decide)).tr (Kd.pI (D := [14]) (by decide)) (fun _ h => h) (fun _ h => h)
  have z6 : gI W0 14 6 = 4 := by rw [hW0, gI_pI, if_neg (by omega), pI_same]
  have z7 : gI W0 14 7 = -1 := by rw [hW0, pI_same]
  have hC0 := k0.cb (by decide) hC
  obtain ⟨y, W1, hy, g1, g2, g3, g4⟩ := c_goalsBack hB hC0
  have eL : gL W0 1 2 = gL w 1 2 := (k0 1 2 (by decide)).2
  have eA : gL W0 1 3 = gL w 1 3 := (k0 1 3 (by decide)).2
  obtain ⟨W3, hW3⟩ : ∃ W3, W3 = pI (pI (pL (pI W1 14 4 0) 15 0 (gL w 1 2)) 16 0 (-1)) 14 4 (nI (0 + 1)) := ⟨_, rfl⟩
  have a3 : F_X1_addBoard (pI W1 14 4 0) (gL (pI W1 14 4 0) 1 2) (-1) = some W3 := by
    rw [show gL (pI W1 14 4 0) 1 2 = gL w 1 2 from ((g3 1 2 (by decide)).2).trans eL, c_addBoard (w := pI W1 14 4 0) (C := 0) (show gI (pI W1 14 4 0) 14 4 = nI 0 from pI_same) (by omega), hW3]
  have k3 : Kd [14, 15, 16] W1 W3 := by
    rw [hW3]
    exact ((Kd.pI (D := [14]) (by decide)).tr (Kd.pL (D := [15]) (by decide)) (D := [14, 15]) (by decide) (by decide)).tr ((Kd.pI (D := [16]) (by decide)).tr (Kd.pI (D := [14]) (by decide)) (D := [14, 16]) (by decide) (by decide)) (by decide) (by decide)
  have f3 : ∀ b, b ≠ 4 → gI W3 14 b = gI W1 14 b := fun b hb => by
    rw [hW3, gI_pI, if_neg (by omega), gI_pI, if_neg (by omega), gI_pL, gI_pI, if_neg (by omega)]
  have n3 : gI W3 14 4 = nI 1 := by
    rw [hW3, pI_same]
  have l3 : gL W3 15 0 = gL w 1 2 := by
    rw [hW3, gL_pI, gL_pI, gL_pL, if_pos ⟨rfl, rfl⟩]
  have m3 : gI W3 16 0 = -1 := by
    rw [hW3, gI_pI, if_neg (by omega), pI_same]
  have hC1 := g3.cb (by decide) hC0
  have hC3 := k3.cb (by decide) hC1
  -- one turn, two turns
  obtain ⟨W4, s1, s2, s3, s4, s5, s6⟩ := c_spread hB hC3 (a := 0) (n := 1) (N := 1) (by omega) n3 (by omega) (by omega)
  have hC4 := s2.cb (by decide) hC3
  rw [Nat.one_mul] at s4
  obtain ⟨W5, v1, v2, v3, v4, v5, v6⟩ := c_spread hB hC4 (a := 1) (n := mm B) (N := 1 + mm B) (Nat.le_refl _) s4 (by omega) (by omega)
  have hC5 := v2.cb (by decide) hC4
  have f5 : ∀ b, b ≠ 4 → gI W5 14 b = gI W1 14 b := fun b hb => (v3 b hb).trans ((s3 b hb).trans (f3 b hb))
  have k5 : Kd [14, 15, 16] W1 W5 := (k3.tr s2 (D := [14, 15, 16]) (fun _ h => h) (fun _ h => h)).tr v2 (fun _ h => h) (fun _ h => h)
  have kall : Kd [14, 15, 16, 17, 18] w W5 := ((k0.tr g3 (D := [14, 17, 18]) (by decide) (by decide))).tr k5 (by decide) (by decide)
  have x6 : gI W5 14 6 = 4 := (f5 6 (by decide)).trans ((g4 6 (by decide)).trans z6)
  have x7 : gI W5 14 7 = -1 := (f5 7 (by decide)).trans ((g4 7 (by decide)).trans z7)
  have x5 : gI W5 14 5 = nI (1 + mm B) := (f5 5 (by decide)).trans g2.1
  have eA5 : gL W5 1 3 = gL w 1 3 := (kall 1 3 (by decide)).2
  have rg0 : gL W5 17 0 = gL W5 1 3 := ((k5 17 0 (by decide)).2.trans g2.2.1).trans (eA.trans eA5.symm)
  have rc0 : gL W5 18 0 = y := (k5 18 0 (by decide)).2.trans g2.2.2.1
  have rgt : ∀ t, t < Tn B → opn B t = true → gL W5 17 (1 + cnt (opn B) t) = tuL B.r B.c (gL W5 1 3) (inv t) ∧ gL W5 18 (1 + cnt (opn B) t) = tuL B.r B.c y (inv t) := by
    intro t ht hot
    have q := g2.2.2.2 t ht hot
    rw [eA] at q
    rw [(k5 17 _ (by decide)).2, (k5 18 _ (by decide)).2, eA5]
    exact q
  -- the rows of boards
  have r0 : gL W5 15 0 = gL w 1 2 := ((v5 0 (by omega)).1.trans (s5 0 (by omega)).1).trans l3
  have q0 : gI W5 16 0 = -1 := ((v5 0 (by omega)).2.trans (s5 0 (by omega)).2).trans m3
  have r4 : ∀ t, t < Tn B → opn B t = true → gL W4 15 (1 + cnt (opn B) t) = tuL B.r B.c (gL w 1 2) t ∧ gI W4 16 (1 + cnt (opn B) t) = nI t := by
    intro t ht hot
    have q := s6 0 (by omega) t ht hot
    rw [Nat.zero_mul, show 1 + 0 + cnt (opn B) t = 1 + cnt (opn B) t by omega, l3, m3, if_neg (by decide)] at q
    exact q
  have r1 : ∀ t, t < Tn B → opn B t = true → gL W5 15 (1 + cnt (opn B) t) = tuL B.r B.c (gL w 1 2) t ∧ gI W5 16 (1 + cnt (opn B) t) = nI t := by
    intro t ht hot
    have hlt : cnt (opn B) t < mm B := cnt_lt_at ht hot
    have q := v5 (1 + cnt (opn B) t) (by omega)
    rw [q.1, q.2]
    exact r4 t ht hot
  have r2 : ∀ t1, t1 < Tn B → opn B t1 = true → ∀ t2, t2 < Tn B → opn B t2 = true → gL W5 15 (1 + mm B + (cnt (opn B) t1 * mm B + cnt (opn B) t2)) = tuL B.r B.c (tuL B.r B.c (gL w 1 2) t1) t2 ∧ gI W5 16 (1 + mm B + (cnt (opn B) t1 * mm B + cnt (opn B) t2)) = nI t1 := by
    intro t1 h1 o1 t2 h2 o2
    have hlt : cnt (opn B) t1 < mm B := cnt_lt_at h1 o1
    have q := v6 (cnt (opn B) t1) hlt t2 h2 o2
    rw [(r4 t1 h1 o1).1, (r4 t1 h1 o1).2, if_pos (nI_pos' (by omega)), Nat.add_assoc] at q
    exact q
  have nb : ∀ (x : Int64) (f : Nat → Nat), (∀ p, p < B.n → nib x p = f p) → ∀ t, t < Tn B → ∀ p, p < B.n → nib (tuL B.r B.c x t) p = tn B t f p := by
    intro x f hf t ht p hp
    rw [(c_tu hB hC x ht).2 p (by omega), hf _ (bk_lt hB ht hp)]
    rfl
  have hf0 : ∀ p, p < B.n → nib (gL w 1 2) p = B.cell p := hC.2.2.1
  have mt0 : ∀ (x : Int64) (f : Nat → Nat), (∀ p, p < B.n → nib x p = f p) → mtb W5 x 0 = met B f := by
    intro x f hf
    unfold mtb
    rw [rg0, rc0]
    have := mt_0 hB hC5 hf hy
    by_cases h : met B f = true
    · rw [h, decide_eq_true (this.mpr h)]
    · rw [decide_eq_false (fun e => h (this.mp e))]
      rw [Bool.not_eq_true] at h
      exact h.symm
  have mtt : ∀ (x : Int64) (f : Nat → Nat), (∀ p, p < B.n → nib x p = f p) → ∀ t, t < Tn B → opn B t = true → mtb W5 x (1 + cnt (opn B) t) = met B (tn B t f) := by
    intro x f hf t ht hot
    unfold mtb
    rw [(rgt t ht hot).1, (rgt t ht hot).2]
    have := mt_t hB hC5 hf hy ht
    by_cases h : met B (tn B t f) = true
    · rw [h, decide_eq_true (this.mpr h)]
    · rw [decide_eq_false (fun e => h (this.mp e))]
      rw [Bool.not_eq_true] at h
      exact h.symm
  have one : ∀ x, exb (fun j => mtb W5 x (0 + j)) 1 = mtb W5 x 0 := fun x => Bool.false_or _
  have start : F_X1_search w = (F_X1_meet W5 0 0 1 0 1).bind fun q5 => (if q5.1 = 0 then ((F_X1_meet q5.2 1 1 (nI (1 + mm B)) 0 1).bind fun q7 => (if q7.1 = 0 then ((F_X1_meet q7.2 2 (nI (1 + mm B)) (gI q7.2 14 4) 0 1).bind fun q9 => (if q9.1 = 0 then ((F_X1_meet q9.2 3 (nI (1 + mm B)) (gI q9.2 14 4) 1 (gI q9.2 14 5)).bind fun q11 => (some (q11.2))) else (some (q9.2)))) else (some (q7.2)))) else (some (q5.2))) := by
    unfold F_X1_search B_X1_search_5 B_X1_search_10 B_X1_search_20
    rw [← hW0, g1, Option.bind_some, a3, Option.bind_some, show F_X1_spread W3 0 1 = some W4 from s1, Option.bind_some, s4, show F_X1_spread W4 1 (nI (1 + mm B)) = some W5 from v1, Option.bind_some]
  rw [start]
  have fin : ∀ v (x : Int32), shl B B.cell = v → shf B B.cell = x → Kd [14, 15, 16, 17, 18] w (pI (pI W5 14 6 (nI v)) 14 7 x) ∧ gI (pI (pI W5 14 6 (nI v)) 14 7 x) 14 6 = nI (shl B B.cell) ∧ gI (pI (pI W5 14 6 (nI v)) 14 7 x) 14 7 = shf B B.cell := by
    intro v x h1 h2
    refine ⟨kall.tr ((Kd.pI (D := [14]) (by decide)).tr (Kd.pI (D := [14]) (by decide)) (D := [14]) (fun _ h => h) (fun _ h => h)) (fun _ h => h) (by decide), ?_, ?_⟩
    · rw [gI_pI, if_neg (by omega), pI_same, h1]
    · rw [pI_same, h2]
  -- none
  have c0 := c_meet (w := W5) (v := 0) (a := 0) (n := 1) (fg := 0) (ng := 1) (by omega) (by omega)
  have q0e : exb (fun k => exb (fun j => mtb W5 (gL W5 15 (0 + k)) (0 + j)) 1) 1 = R B 0 B.cell := by
    show (false || exb (fun j => mtb W5 (gL W5 15 (0 + 0)) (0 + j)) 1) = _
    rw [Bool.false_or, one, show gL W5 15 (0 + 0) = gL w 1 2 from r0, mt0 _ _ hf0]
    rfl
  by_cases hR0 : R B 0 B.cell = true
  · have es : shl B B.cell = 0 := shl_eq (by omega) hR0 (fun j hj => absurd hj (Nat.not_lt_zero j))
    have hlt := fst_ex (q0e.trans hR0)
    have e0 : fst1 (fun k => exb (fun j => mtb W5 (gL W5 15 (0 + k)) (0 + j)) 1) 1 = 0 := by omega
    rw [if_pos hlt, e0, show gI W5 16 (0 + 0) = -1 from q0] at c0
    rw [show F_X1_meet W5 0 0 1 0 1 = _ from c0, Option.bind_some]
    exact ⟨_, if_neg (show ¬ (1 : Int32) = 0 by decide), fin 0 (-1) es (by unfold shf; rw [if_pos (Or.inl es)])⟩
  rw [Bool.not_eq_true] at hR0
  rw [if_neg (fst_no (q0e.trans hR0))] at c0
  rw [show F_X1_meet W5 0 0 1 0 1 = _ from c0, Option.bind_some, if_pos rfl]
  -- one
  have c1 := c_meet (w := W5) (v := 1) (a := 1) (n := mm B) (fg := 0) (ng := 1) (by omega) (by omega)
  obtain ⟨Q1, hQ1⟩ : ∃ Q1 : Nat → Bool, Q1 = fun k => exb (fun j => mtb W5 (gL W5 15 (1 + k)) (0 + j)) 1 := ⟨_, rfl⟩
  rw [← hQ1] at c1
  have en1 : ∀ t, t < Tn B → opn B t = true → Q1 (cnt (opn B) t) = met B (tn B t B.cell) := by
    intro t ht hot
    rw [hQ1]
    show exb (fun j => mtb W5 (gL W5 15 (1 + cnt (opn B) t)) (0 + j)) 1 = _
    rw [one, (r1 t ht hot).1, mt0 _ _ (nb _ _ hf0 t ht)]
  have q1e : exb Q1 (mm B) = R B 1 B.cell := en_exb en1
  by_cases hR1 : R B 1 B.cell = true
  · have es : shl B B.cell = 1 := shl_eq (by omega) hR1 (fun j hj => by rw [show j = 0 by omega]; exact hR0)
    have hlt := fst_ex (q1e.trans hR1)
    obtain ⟨t, ht, hot, h1, h2⟩ := en_fst en1 hlt
    rw [if_pos hlt, ← h1, (r1 t ht hot).2] at c1
    rw [show F_X1_meet W5 1 1 (nI (1 + mm B)) 0 1 = _ from c1, Option.bind_some]
    refine ⟨_, if_neg (show ¬ (1 : Int32) = 0 by decide), fin 1 (nI t) es ?_⟩
    unfold shf
    rw [es, if_neg (by omega)]
    show nI (ft B 0 B.cell) = nI t
    exact congrArg nI h2
  rw [Bool.not_eq_true] at hR1
  rw [if_neg (fst_no (q1e.trans hR1))] at c1
  rw [show F_X1_meet W5 1 1 (nI (1 + mm B)) 0 1 = _ from c1, Option.bind_some, if_pos rfl]
  have v4' : gI W5 14 4 = nI (1 + mm B + mm B * mm B) := v4
  have n2 : ∀ t1, t1 < Tn B → ∀ t2, t2 < Tn B → ∀ p, p < B.n → nib (tuL B.r B.c (tuL B.r B.c (gL w 1 2) t1) t2) p = tn B t2 (tn B t1 B.cell) p := fun t1 h1 t2 h2 => nb _ _ (nb _ _ hf0 t1 h1) t2 h2
  -- two
  have c2 := c_meet (w := W5) (v := 2) (a := 1 + mm B) (n := mm B * mm B) (fg := 0) (ng := 1) (by omega) (by omega)
  obtain ⟨Q2, hQ2⟩ : ∃ Q2 : Nat → Bool, Q2 = fun k => exb (fun j => mtb W5 (gL W5 15 (1 + mm B + k)) (0 + j)) 1 := ⟨_, rfl⟩
  rw [← hQ2] at c2
  obtain ⟨q2e, q2f⟩ := en2 (o := opn B) (P := fun t1 t2 => met B (tn B t2 (tn B t1 B.cell))) (q := Q2) (T := Tn B) (m := mm B) rfl (fun t1 h1 o1 t2 h2 o2 => by
    rw [hQ2]
    show exb (fun j => mtb W5 (gL W5 15 (1 + mm B + (cnt (opn B) t1 * mm B + cnt (opn B) t2))) (0 + j)) 1 = _
    rw [one, (r2 t1 h1 o1 t2 h2 o2).1, mt0 _ _ (n2 t1 h1 t2 h2)])
  have q2e : exb Q2 (mm B * mm B) = R B 2 B.cell := q2e
  by_cases hR2 : R B 2 B.cell = true
  · have es : shl B B.cell = 2 := shl_eq (by omega) hR2 (fun j hj => by
      rcases (by omega : j = 0 ∨ j = 1) with rfl | rfl
      · exact hR0
      · exact hR1)
    have hlt := fst_ex (q2e.trans hR2)
    obtain ⟨t, ht, hot, h1, t2, ht2, hot2, h2⟩ := q2f hlt
    rw [if_pos hlt, h2, (r2 t ht hot t2 ht2 hot2).2] at c2
    rw [v4', show F_X1_meet W5 2 (nI (1 + mm B)) (nI (1 + mm B + mm B * mm B)) 0 1 = _ from c2, Option.bind_some]
    refine ⟨_, if_neg (show ¬ (1 : Int32) = 0 by decide), fin 2 (nI t) es ?_⟩
    unfold shf
    rw [es, if_neg (by omega)]
    show nI (ft B 1 B.cell) = nI t
    exact congrArg nI h1
  rw [Bool.not_eq_true] at hR2
  rw [if_neg (fst_no (q2e.trans hR2))] at c2
  rw [v4', show F_X1_meet W5 2 (nI (1 + mm B)) (nI (1 + mm B + mm B * mm B)) 0 1 = _ from c2, Option.bind_some, if_pos rfl]
  -- three
  have c3 := c_meet (w := W5) (v := 3) (a := 1 + mm B) (n := mm B * mm B) (fg := 1) (ng := mm B) (by omega) (by omega)
  obtain ⟨Q3, hQ3⟩ : ∃ Q3 : Nat → Bool, Q3 = fun k => exb (fun j => mtb W5 (gL W5 15 (1 + mm B + k)) (1 + j)) (mm B) := ⟨_, rfl⟩
  rw [← hQ3] at c3
  obtain ⟨q3e, q3f⟩ := en2 (o := opn B) (P := fun t1 t2 => R B 1 (tn B t2 (tn B t1 B.cell))) (q := Q3) (T := Tn B) (m := mm B) rfl (fun t1 h1 o1 t2 h2 o2 => by
    rw [hQ3]
    show exb (fun j => mtb W5 (gL W5 15 (1 + mm B + (cnt (opn B) t1 * mm B + cnt (opn B) t2))) (1 + j)) (mm B) = _
    rw [(r2 t1 h1 o1 t2 h2 o2).1]
    exact en_exb (fun t3 h3 o3 => mtt _ _ (n2 t1 h1 t2 h2) t3 h3 o3))
  have q3e : exb Q3 (mm B * mm B) = R B 3 B.cell := q3e
  show ∃ w', ((F_X1_meet W5 3 (nI (1 + mm B)) (gI W5 14 4) 1 (gI W5 14 5)).bind fun q11 => some q11.2) = some w' ∧ _
  rw [v4', x5]
  by_cases hR3 : R B 3 B.cell = true
  · have es : shl B B.cell = 3 := shl_eq (by omega) hR3 (fun j hj => by
      rcases (by omega : j = 0 ∨ j = 1 ∨ j = 2) with rfl | rfl | rfl
      · exact hR0
      · exact hR1
      · exact hR2)
    have hlt := fst_ex (q3e.trans hR3)
    obtain ⟨t, ht, hot, h1, t2, ht2, hot2, h2⟩ := q3f hlt
    rw [if_pos hlt, h2, (r2 t ht hot t2 ht2 hot2).2] at c3
    rw [show F_X1_meet W5 3 (nI (1 + mm B)) (nI (1 + mm B + mm B * mm B)) 1 (nI (1 + mm B)) = _ from c3, Option.bind_some]
    refine ⟨_, rfl, fin 3 (nI t) es ?_⟩
    unfold shf
    rw [es, if_neg (by omega)]
    show nI (ft B 2 B.cell) = nI t
    exact congrArg nI h1
  · rw [Bool.not_eq_true] at hR3
    have es : shl B B.cell = 4 := shl_4 (fun j hj => by
      rcases (by omega : j = 0 ∨ j = 1 ∨ j = 2 ∨ j = 3) with rfl | rfl | rfl | rfl
      · exact hR0
      · exact hR1
      · exact hR2
      · exact hR3)
    rw [if_neg (fst_no (q3e.trans hR3))] at c3
    rw [show F_X1_meet W5 3 (nI (1 + mm B)) (nI (1 + mm B + mm B * mm B)) 1 (nI (1 + mm B)) = _ from c3, Option.bind_some]
    refine ⟨W5, rfl, kall, ?_, ?_⟩
    · rw [es, x6]
      rfl
    · rw [x7]
      unfold shf
      rw [if_pos (Or.inr es)]
