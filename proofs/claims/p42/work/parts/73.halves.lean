/-! BY HALVES: the class's rows of goals and of boards -/
theorem jchk_n0 {α : Type} {a N : Nat} {o : Option α} (h : a < N) (hN : N < 2 ^ 31) : jchk (¬ (nI a < (0 : Int32) ∨ N ≤ (nI a).toNatClampNeg)) o = o := jchk_nI h hN
theorem jchk_n1 {α : Type} {a N : Nat} {o : Option α} (h : a < N) (hN : N < 2 ^ 31) : jchk (¬ (nI a < (0 : Int32) ∨ N ≤ a)) o = o := jchk_pos (fun q => q.elim (nI_pos (by omega)) (by omega))
section CH
variable {w : Wo} {B : Bd}
abbrev mm (B : Bd) : Nat := cnt (opn B) (Tn B)
theorem mm_le (hB : B.ok) : mm B ≤ 12 := Nat.le_trans (cnt_le _ _) (opn_lt hB).1
theorem c_addGoal {C : Nat} {x y : Int64} (hw : gI w 14 5 = nI C) (hC : C < 13) : F_X1_addGoal w x y = some (pI (pL (pL w 17 C x) 18 C y) 14 5 (nI (C + 1))) := by
  unfold F_X1_addGoal B_X1_addGoal_41 B_X1_addGoal_51
  have e1 : gI (pL w 17 C x) 14 5 = nI C := hw
  have e2 : gI (pL (pL w 17 C x) 18 C y) 14 5 = nI C := hw
  rw [hw, if_neg (nI_pos (by omega)), show (13 : Int32) = nI 13 from rfl, if_neg (nI_ge hC (by omega)), if_neg (nI_ge hC (by omega)), L0, jchk_nI (by omega) (by omega), nI_clamp (by omega), e1, jchk_nI (by omega) (by omega), nI_clamp (by omega), e2, nI_1]
theorem c_addBoard {C : Nat} {x : Int64} {y : Int32} (hw : gI w 14 4 = nI C) (hC : C < 157) : F_X1_addBoard w x y = some (pI (pI (pL w 15 C x) 16 C y) 14 4 (nI (C + 1))) := by
  unfold F_X1_addBoard B_X1_addBoard_41 B_X1_addBoard_51
  have e1 : gI (pL w 15 C x) 14 4 = nI C := hw
  have e2 : gI (pI (pL w 15 C x) 16 C y) 14 4 = nI C := by
    rw [gI_pI, if_neg (by omega)]
    exact hw
  rw [hw, if_neg (nI_pos (by omega)), show (157 : Int32) = nI 157 from rfl, if_neg (nI_ge hC (by omega)), if_neg (nI_ge hC (by omega)), L0, jchk_nI (by omega) (by omega), nI_clamp (by omega), e1, jchk_nI (by omega) (by omega), nI_clamp (by omega), e2, nI_1]
theorem xor1 : ∀ t, t < 12 → (nI t ^^^ (1 : Int32)) = nI (inv t) := by decide
/-- the rows of goals -/
def GG (w' : Wo) (B : Bd) (aim y : Int64) : Prop := gI w' 14 5 = nI (1 + mm B) ∧ gL w' 17 0 = aim ∧ gL w' 18 0 = y ∧ ∀ t, t < Tn B → opn B t = true → gL w' 17 (1 + cnt (opn B) t) = tuL B.r B.c aim (inv t) ∧ gL w' 18 (1 + cnt (opn B) t) = tuL B.r B.c y (inv t)
theorem c_goalsBack (hB : B.ok) (hC : CB w 1 B) : ∃ y w', Cr B y ∧ F_X1_takeGoalsBack w = some w' ∧ GG w' B (gL w 1 3) y ∧ Kd [14, 17, 18] w w' ∧ ∀ b, b ≠ 5 → gI w' 14 b = gI w 14 b := by
  have hd := dims hB
  have ho := opn_lt hB
  have hmm := mm_le hB
  obtain ⟨y, y1, y2⟩ := c_cares hB hC
  refine ⟨y, ?_⟩
  unfold F_X1_takeGoalsBack B_X1_takeGoalsBack_10
  rw [y1, Option.bind_some]
  have ea := c_addGoal (w := pI w 14 5 0) (C := 0) (x := gL w 1 3) (y := y) pI_same (by omega)
  rw [show gL (pI w 14 5 0) 1 3 = gL w 1 3 from rfl, ea, Option.bind_some]
  obtain ⟨w1, hw1⟩ : ∃ w1, w1 = pI (pL (pL (pI w 14 5 0) 17 0 (gL w 1 3)) 18 0 y) 14 5 (nI (0 + 1)) := ⟨_, rfl⟩
  rw [← hw1]
  have k1 : Kd [14, 17, 18] w w1 := by
    rw [hw1]
    exact ((Kd.pI (D := [14]) (by decide)).tr (Kd.pL (D := [17]) (by decide)) (D := [14, 17]) (by decide) (by decide)).tr ((Kd.pL (D := [18]) (by decide)).tr (Kd.pI (D := [14]) (by decide)) (D := [14, 18]) (by decide) (by decide)) (by decide) (by decide)
  have g1 : ∀ b, b ≠ 5 → gI w1 14 b = gI w 14 b := fun b hb => by
    rw [hw1, gI_pI, if_neg (by omega), gI_pL, gI_pL, gI_pI, if_neg (by omega)]
  have r1 : gL w1 17 0 = gL w 1 3 := by
    rw [hw1, gL_pI, gL_pL, if_neg (by omega), gL_pL, if_pos ⟨rfl, rfl⟩]
  have r2 : gL w1 18 0 = y := by
    rw [hw1, gL_pI, gL_pL, if_pos ⟨rfl, rfl⟩]
  refine jl2_inv (P := fun k u a => a = nI k ∧ Kd [14, 17, 18] w u ∧ (∀ b, b ≠ 5 → gI u 14 b = gI w 14 b) ∧ gI u 14 5 = nI (1 + cnt (opn B) k) ∧ gL u 17 0 = gL w 1 3 ∧ gL u 18 0 = y ∧ ∀ t, t < k → opn B t = true → gL u 17 (1 + cnt (opn B) t) = tuL B.r B.c (gL w 1 3) (inv t) ∧ gL u 18 (1 + cnt (opn B) t) = tuL B.r B.c y (inv t))
    (Qr := fun r => ∃ w', Cr B y ∧ r = some w' ∧ GG w' B (gL w 1 3) y ∧ Kd [14, 17, 18] w w' ∧ ∀ b, b ≠ 5 → gI w' 14 b = gI w 14 b) (Tn B) (by rw [fu4]; omega) ?_ ?_ ⟨rfl, k1, g1, ?_, r1, r2, fun t h => absurd h (Nat.not_lt_zero t)⟩
  · rintro k hk u a ⟨rfl, h1, h2, h3, h4, h5, h6⟩
    have hu := h1.cb (by decide) hC
    have hck : cnt (opn B) k ≤ 12 := Nat.le_trans (cnt_le _ _) (by omega)
    refine Or.inl ?_
    have hck2 := cnt_mon (opn B) (a := k + 1) (b := Tn B) hk
    by_cases hop : opn B k = true
    · rw [cnt_yes hop] at hck2
      have hck2 : cnt (opn B) k + 1 ≤ mm B := hck2
      have hi : inv k < Tn B := (inv_lt hB k hk).1
      have t1 := (c_tu hB hu (gL w 1 3) hi).1
      have t2 := (c_tu hB hu y hi).1
      have t3 := c_addGoal (x := tuL B.r B.c (gL w 1 3) (inv k)) (y := tuL B.r B.c y (inv k)) h3 (by omega)
      refine ⟨pI (pL (pL u 17 (1 + cnt (opn B) k) (tuL B.r B.c (gL w 1 3) (inv k))) 18 (1 + cnt (opn B) k) (tuL B.r B.c y (inv k))) 14 5 (nI (1 + cnt (opn B) k + 1)), nI (k + 1), ⟨rfl, ?_, fun b hb => ?_, ?_, ?_, ?_, fun t ht hot => ?_⟩, fun K => ?_⟩
      · exact h1.tr (((Kd.pL (D := [17]) (by decide)).tr (Kd.pL (D := [18]) (by decide)) (D := [17, 18]) (by decide) (by decide)).tr (Kd.pI (D := [14]) (by decide)) (D := [14, 17, 18]) (by decide) (by decide)) (fun _ h => h) (fun _ h => h)
      · rw [gI_pI, if_neg (by omega)]
        exact h2 b hb
      · rw [pI_same, cnt_yes hop]
        rfl
      · rw [gL_pI, gL_pL, if_neg (by omega), gL_pL, if_neg (by omega)]
        exact h4
      · rw [gL_pI, gL_pL, if_neg (by omega), gL_pL, if_neg (by omega)]
        exact h5
      · rw [gL_pI, gL_pI, gL_pL, gL_pL, gL_pL, gL_pL]
        by_cases e : t = k
        · rw [e, if_neg (by omega), if_pos ⟨rfl, rfl⟩, if_pos ⟨rfl, rfl⟩]
          exact ⟨rfl, rfl⟩
        · have hlt := cnt_lt_at (show t < k by omega) hot
          rw [if_neg (by omega), if_neg (by omega), if_neg (by omega), if_neg (by omega)]
          exact h6 t (by omega) hot
      · unfold B_X1_takeGoalsBack_22 B_X1_takeGoalsBack_65
        rw [show F_X0_turns u = nI (Tn B) from c_turns hB hu, if_neg (nI_ge hk (by omega)), c_canTurn hB hu (by omega), Option.bind_some, itb0, if_pos (show (!B.bar (k / 2)) = true from hop), xor1 k (by omega), (h1 1 3 (by decide)).2, t1, Option.bind_some, t2, Option.bind_some, t3, Option.bind_some, nI_succ k]
    · refine ⟨u, nI (k + 1), ⟨rfl, h1, h2, by rw [cnt_no hop]; exact h3, h4, h5, fun t ht hot => ?_⟩, fun K => ?_⟩
      · rcases Nat.lt_or_ge t k with e | e
        · exact h6 t e hot
        · rw [show t = k by omega] at hot
          exact absurd hot hop
      · unfold B_X1_takeGoalsBack_22 B_X1_takeGoalsBack_65
        rw [show F_X0_turns u = nI (Tn B) from c_turns hB hu, if_neg (nI_ge hk (by omega)), c_canTurn hB hu (by omega), Option.bind_some, itb0, if_neg (show ¬ (!B.bar (k / 2)) = true from hop), nI_succ]
  · rintro u a ⟨rfl, h1, h2, h3, h4, h5, h6⟩ K
    have hu := h1.cb (by decide) hC
    refine ⟨u, y2, ?_, ⟨h3, h4, h5, h6⟩, h1, h2⟩
    unfold B_X1_takeGoalsBack_22
    rw [show F_X0_turns u = nI (Tn B) from c_turns hB hu, if_pos (nI_le (Nat.le_refl _) (by omega))]
  · rw [hw1, pI_same]
    rfl
/-- one board's turns -/
theorem c_spreadIn (hB : B.ok) (hC : CB w 1 B) (k3 : Wo → Int32 → Option Wo) (x3 : Int32) {i C : Nat} (hi : i < C) (hw : gI w 14 4 = nI C) (hlim : C + mm B ≤ 157) : ∃ w', jl2 (B_X1_spread_37 k3 x3 (nI i)) fu w 0 = k3 w' (nI (i + 1)) ∧ Kd [14, 15, 16] w w' ∧ (∀ b, b ≠ 4 → gI w' 14 b = gI w 14 b) ∧ gI w' 14 4 = nI (C + mm B) ∧ (∀ j, j < C → gL w' 15 j = gL w 15 j ∧ gI w' 16 j = gI w 16 j) ∧ ∀ t, t < Tn B → opn B t = true → gL w' 15 (C + cnt (opn B) t) = tuL B.r B.c (gL w 15 i) t ∧ gI w' 16 (C + cnt (opn B) t) = if 0 ≤ gI w 16 i then gI w 16 i else nI t := by
  have hd := dims hB
  have ho := opn_lt hB
  refine jl2_inv (P := fun k u a => a = nI k ∧ Kd [14, 15, 16] w u ∧ (∀ b, b ≠ 4 → gI u 14 b = gI w 14 b) ∧ gI u 14 4 = nI (C + cnt (opn B) k) ∧ (∀ j, j < C → gL u 15 j = gL w 15 j ∧ gI u 16 j = gI w 16 j) ∧ ∀ t, t < k → opn B t = true → gL u 15 (C + cnt (opn B) t) = tuL B.r B.c (gL w 15 i) t ∧ gI u 16 (C + cnt (opn B) t) = if 0 ≤ gI w 16 i then gI w 16 i else nI t)
    (Qr := fun r => ∃ w', r = k3 w' (nI (i + 1)) ∧ Kd [14, 15, 16] w w' ∧ (∀ b, b ≠ 4 → gI w' 14 b = gI w 14 b) ∧ gI w' 14 4 = nI (C + mm B) ∧ (∀ j, j < C → gL w' 15 j = gL w 15 j ∧ gI w' 16 j = gI w 16 j) ∧ ∀ t, t < Tn B → opn B t = true → gL w' 15 (C + cnt (opn B) t) = tuL B.r B.c (gL w 15 i) t ∧ gI w' 16 (C + cnt (opn B) t) = if 0 ≤ gI w 16 i then gI w 16 i else nI t) (Tn B) (by rw [fu4]; omega) ?_ ?_ ⟨rfl, Kd.rf, fun _ _ => rfl, hw, fun _ _ => ⟨rfl, rfl⟩, fun t h => absurd h (Nat.not_lt_zero t)⟩
  · rintro k hk u a ⟨rfl, h1, h2, h3, h4, h5⟩
    have hu := h1.cb (by decide) hC
    have hck2 := cnt_mon (opn B) (a := k + 1) (b := Tn B) hk
    refine Or.inl ?_
    by_cases hop : opn B k = true
    · rw [cnt_yes hop] at hck2
      have hck2 : cnt (opn B) k + 1 ≤ mm B := hck2
      have t1 := (c_tu hB hu (gL w 15 i) hk).1
      have h4i := h4 i hi
      obtain ⟨fv, hfv⟩ : ∃ fv : Int32, fv = if 0 ≤ gI w 16 i then gI w 16 i else nI k := ⟨_, rfl⟩
      have t3 := c_addBoard (x := tuL B.r B.c (gL w 15 i) k) (y := fv) h3 (by omega)
      refine ⟨pI (pI (pL u 15 (C + cnt (opn B) k) (tuL B.r B.c (gL w 15 i) k)) 16 (C + cnt (opn B) k) fv) 14 4 (nI (C + cnt (opn B) k + 1)), nI (k + 1), ⟨rfl, ?_, fun b hb => ?_, ?_, fun j hj => ?_, fun t ht hot => ?_⟩, fun K => ?_⟩
      · exact h1.tr (((Kd.pL (D := [15]) (by decide)).tr (Kd.pI (D := [16]) (by decide)) (D := [15, 16]) (by decide) (by decide)).tr (Kd.pI (D := [14]) (by decide)) (D := [14, 15, 16]) (by decide) (by decide)) (fun _ h => h) (fun _ h => h)
      · rw [gI_pI, if_neg (by omega), gI_pI, if_neg (by omega)]
        exact h2 b hb
      · rw [pI_same, cnt_yes hop]
        rfl
      · rw [gL_pI, gL_pI, gL_pL, if_neg (by omega), gI_pI, if_neg (by omega), gI_pI, if_neg (by omega)]
        exact h4 j hj
      · rw [gL_pI, gL_pI, gL_pL, gI_pI, if_neg (show ¬ (16 = 14 ∧ C + cnt (opn B) t = 4) by omega), gI_pI]
        by_cases e : t = k
        · rw [e, if_pos ⟨rfl, rfl⟩, if_pos ⟨rfl, rfl⟩]
          exact ⟨rfl, hfv⟩
        · have hlt := cnt_lt_at (show t < k by omega) hot
          rw [if_neg (by omega), if_neg (by omega)]
          exact h5 t (by omega) hot
      · have e91 : ∀ v : Int32, v = fv → B_X1_spread_91 k3 K u x3 (nI i) (nI k) v (tuL B.r B.c (gL w 15 i) k) = K (pI (pI (pL u 15 (C + cnt (opn B) k) (tuL B.r B.c (gL w 15 i) k)) 16 (C + cnt (opn B) k) fv) 14 4 (nI (C + cnt (opn B) k + 1))) (nI k + 1) := by
          intro v hv
          rw [hv]
          unfold B_X1_spread_91 B_X1_spread_94
          rw [t3, Option.bind_some]
        unfold B_X1_spread_37
        rw [show F_X0_turns u = nI (Tn B) from c_turns hB hu, if_neg (nI_ge hk (by omega)), c_canTurn hB hu (by omega), Option.bind_some, itb0, if_pos (show (!B.bar (k / 2)) = true from hop), jchk_n0 (by omega) (by omega), nI_clamp (by omega), h4i.1, t1, Option.bind_some, jchk_n1 (by omega) (by omega), h4i.2, jchk_n1 (by omega) (by omega), nI_succ k]
        by_cases h0 : (0 : Int32) ≤ gI w 16 i
        · rw [if_pos h0]
          exact e91 _ (by rw [hfv, if_pos h0])
        · rw [if_neg h0]
          exact e91 _ (by rw [hfv, if_neg h0])
    · refine ⟨u, nI (k + 1), ⟨rfl, h1, h2, by rw [cnt_no hop]; exact h3, h4, fun t ht hot => ?_⟩, fun K => ?_⟩
      · rcases Nat.lt_or_ge t k with e | e
        · exact h5 t e hot
        · rw [show t = k by omega] at hot
          exact absurd hot hop
      · unfold B_X1_spread_37 B_X1_spread_94
        rw [show F_X0_turns u = nI (Tn B) from c_turns hB hu, if_neg (nI_ge hk (by omega)), c_canTurn hB hu (by omega), Option.bind_some, itb0, if_neg (show ¬ (!B.bar (k / 2)) = true from hop), nI_succ]
  · rintro u a ⟨rfl, h1, h2, h3, h4, h5⟩ K
    have hu := h1.cb (by decide) hC
    refine ⟨u, ?_, h1, h2, h3, h4, h5⟩
    unfold B_X1_spread_37 B_X1_spread_100
    rw [show F_X0_turns u = nI (Tn B) from c_turns hB hu, if_pos (nI_le (Nat.le_refl _) (by omega)), nI_succ]
theorem c_spread (hB : B.ok) (hC : CB w 1 B) {a n N : Nat} (hN : a + n ≤ N) (hw : gI w 14 4 = nI N) (hlim : N + n * mm B ≤ 157) (hb : N < 157) : ∃ w', F_X1_spread w (nI a) (nI (a + n)) = some w' ∧ Kd [14, 15, 16] w w' ∧ (∀ b, b ≠ 4 → gI w' 14 b = gI w 14 b) ∧ gI w' 14 4 = nI (N + n * mm B) ∧ (∀ j, j < N → gL w' 15 j = gL w 15 j ∧ gI w' 16 j = gI w 16 j) ∧ ∀ i, i < n → ∀ t, t < Tn B → opn B t = true → gL w' 15 (N + i * mm B + cnt (opn B) t) = tuL B.r B.c (gL w 15 (a + i)) t ∧ gI w' 16 (N + i * mm B + cnt (opn B) t) = if 0 ≤ gI w 16 (a + i) then gI w 16 (a + i) else nI t := by
  unfold F_X1_spread
  refine jl2_ivK (P := fun i u x => x = nI (a + i) ∧ Kd [14, 15, 16] w u ∧ (∀ b, b ≠ 4 → gI u 14 b = gI w 14 b) ∧ gI u 14 4 = nI (N + i * mm B) ∧ (∀ j, j < N → gL u 15 j = gL w 15 j ∧ gI u 16 j = gI w 16 j) ∧ ∀ i', i' < i → ∀ t, t < Tn B → opn B t = true → gL u 15 (N + i' * mm B + cnt (opn B) t) = tuL B.r B.c (gL w 15 (a + i')) t ∧ gI u 16 (N + i' * mm B + cnt (opn B) t) = if 0 ≤ gI w 16 (a + i') then gI w 16 (a + i') else nI t)
    (Qr := fun r => ∃ w', r = some w' ∧ Kd [14, 15, 16] w w' ∧ (∀ b, b ≠ 4 → gI w' 14 b = gI w 14 b) ∧ gI w' 14 4 = nI (N + n * mm B) ∧ (∀ j, j < N → gL w' 15 j = gL w 15 j ∧ gI w' 16 j = gI w 16 j) ∧ ∀ i, i < n → ∀ t, t < Tn B → opn B t = true → gL w' 15 (N + i * mm B + cnt (opn B) t) = tuL B.r B.c (gL w 15 (a + i)) t ∧ gI w' 16 (N + i * mm B + cnt (opn B) t) = if 0 ≤ gI w 16 (a + i) then gI w 16 (a + i) else nI t) n ?_ ?_ n 0 fu w (nI a) (by omega) (by rw [fu4]; omega) ⟨rfl, Kd.rf, fun _ _ => rfl, by rw [Nat.zero_mul]; exact hw, fun _ _ => ⟨rfl, rfl⟩, fun i h => absurd h (Nat.not_lt_zero i)⟩
  · rintro i hi u x ⟨rfl, h1, h2, h3, h4, h5⟩ K
    have hu := h1.cb (by decide) hC
    have hmul : (i + 1) * mm B ≤ n * mm B := Nat.mul_le_mul_right _ hi
    rw [Nat.succ_mul] at hmul
    obtain ⟨u2, g1, g2, g3, g4, g5, g6⟩ := c_spreadIn hB hu K (nI (a + n)) (i := a + i) (C := N + i * mm B) (by omega) h3 (by omega)
    refine Or.inl ⟨u2, nI (a + (i + 1)), ⟨rfl, h1.tr g2 (fun _ h => h) (fun _ h => h), fun b hb => (g3 b hb).trans (h2 b hb), ?_, fun j hj => ?_, fun i' hi' t ht hot => ?_⟩, ?_⟩
    · rw [g4, Nat.succ_mul, Nat.add_assoc]
    · have q := g5 j (by omega)
      exact ⟨q.1.trans (h4 j hj).1, q.2.trans (h4 j hj).2⟩
    · rcases Nat.lt_or_ge i' i with e | e
      · have hmul2 : (i' + 1) * mm B ≤ i * mm B := Nat.mul_le_mul_right _ e
        rw [Nat.succ_mul] at hmul2
        have hlt : cnt (opn B) t < mm B := cnt_lt_at ht hot
        have q := g5 (N + i' * mm B + cnt (opn B) t) (by omega)
        have q2 := h5 i' e t ht hot
        exact ⟨q.1.trans q2.1, q.2.trans q2.2⟩
      · have ei : i' = i := by omega
        subst ei
        have q := g6 t ht hot
        have q2 := h4 (a + i') (by omega)
        rw [q2.1, q2.2] at q
        exact q
    · unfold B_X1_spread_3
      rw [if_neg (nI_ge (by omega) (by omega)), if_neg (nI_pos (by omega)), show (157 : Int32) = nI 157 from rfl, if_neg (nI_ge (by omega) (by omega)), if_neg (nI_ge (by omega) (by omega))]
      exact g1
  · rintro u x ⟨rfl, h1, h2, h3, h4, h5⟩ K
    refine ⟨u, ?_, h1, h2, h3, h4, h5⟩
    unfold B_X1_spread_3
    rw [if_pos (nI_le (Nat.le_refl _) (by omega))]
def mtb (w : Wo) (x : Int64) (i : Nat) : Bool := decide ((x ^^^ gL w 17 i) &&& gL w 18 i = 0)
theorem c_isMet {x : Int64} {a n : Nat} (h : a + n ≤ 13) : F_X1_isMet w x (nI a) (nI (a + n)) = some (bI (exb (fun k => mtb w x (a + k)) n)) := by
  unfold F_X1_isMet
  refine jl1_inv (P := fun k i => i = nI (a + k) ∧ ∀ j, j < k → mtb w x (a + j) = false) (Qr := fun r => r = some (bI (exb (fun k => mtb w x (a + k)) n))) n (by rw [fu4]; omega) ?_ ?_ ⟨rfl, fun j h => absurd h (Nat.not_lt_zero j)⟩
  · rintro k hk i ⟨rfl, h3⟩
    have e : ∀ K, B_X1_isMet_3 w x (nI (a + n)) K (nI (a + k)) = if mtb w x (a + k) = true then some 1 else K (nI (a + k) + 1) := by
      intro K
      unfold B_X1_isMet_3
      rw [if_neg (nI_ge (by omega) (by omega)), if_neg (nI_pos (by omega)), show (13 : Int32) = nI 13 from rfl, if_neg (nI_ge (by omega) (by omega)), if_neg (nI_ge (by omega) (by omega)), jchk_n0 (by omega) (by omega), jchk_n0 (by omega) (by omega), nI_clamp (by omega)]
      unfold mtb
      by_cases hz : (x ^^^ gL w 17 (a + k)) &&& gL w 18 (a + k) = 0
      · rw [decide_eq_true hz, if_pos rfl, if_pos (lg0.mpr hz)]
      · rw [decide_eq_false hz, if_neg (fun q => hz (lg0.mp q)), if_neg (show ¬ (false = true) by decide)]
    by_cases hm : mtb w x (a + k) = true
    · refine Or.inr (fun K => ?_)
      rw [e, if_pos hm, exb_iff.mpr ⟨k, hk, hm⟩]
      rfl
    · refine Or.inl ⟨nI (a + (k + 1)), ⟨rfl, fun j hj => ?_⟩, fun K => ?_⟩
      · rcases Nat.lt_or_ge j k with h4 | h4
        · exact h3 j h4
        · rw [show j = k by omega]
          simpa using hm
      · rw [e, if_neg hm, ← Nat.add_assoc, nI_succ]
  · rintro i ⟨rfl, h3⟩ K
    unfold B_X1_isMet_3
    rw [if_pos (nI_le (Nat.le_refl _) (by omega)), exb_false.mpr h3]
    rfl
theorem c_meet {v a n fg ng : Nat} (h : a + n ≤ 157) (hg : fg + ng ≤ 13) : F_X1_meet w (nI v) (nI a) (nI (a + n)) (nI fg) (nI (fg + ng)) = (if fst1 (fun k => exb (fun j => mtb w (gL w 15 (a + k)) (fg + j)) ng) n < n then some (1, pI (pI w 14 6 (nI v)) 14 7 (gI w 16 (a + fst1 (fun k => exb (fun j => mtb w (gL w 15 (a + k)) (fg + j)) ng) n))) else some (0, w)) := by
  unfold F_X1_meet
  obtain ⟨q, hq⟩ : ∃ q : Nat → Bool, q = fun k => exb (fun j => mtb w (gL w 15 (a + k)) (fg + j)) ng := ⟨_, rfl⟩
  rw [← hq]
  refine jl1_inv (P := fun k i => i = nI (a + k) ∧ ∀ j, j < k → q j = false) (Qr := fun r => r = (if fst1 q n < n then some (1, pI (pI w 14 6 (nI v)) 14 7 (gI w 16 (a + fst1 q n))) else some (0, w))) n (by rw [fu4]; omega) ?_ ?_ ⟨rfl, fun j h => absurd h (Nat.not_lt_zero j)⟩
  · rintro k hk i ⟨rfl, h3⟩
    have e : ∀ K, B_X1_meet_3 w (nI v) (nI (a + n)) (nI fg) (nI (fg + ng)) K (nI (a + k)) = if q k = true then some (1, pI (pI w 14 6 (nI v)) 14 7 (gI w 16 (a + k))) else K (nI (a + k) + 1) := by
      intro K
      unfold B_X1_meet_3 B_X1_meet_52 B_X1_meet_57 B_X1_meet_68
      rw [if_neg (nI_ge (by omega) (by omega)), if_neg (nI_pos (by omega)), show (157 : Int32) = nI 157 from rfl, if_neg (nI_ge (by omega) (by omega)), if_neg (nI_ge (by omega) (by omega)), jchk_n0 (by omega) (by omega), nI_clamp (by omega), c_isMet hg, Option.bind_some, jchk_n1 (by omega) (by omega), itb0, gI_pI, if_neg (show ¬ (16 = 14 ∧ a + k = 6) by omega), hq]
    by_cases hm : q k = true
    · refine Or.inr (fun K => ?_)
      rw [e, if_pos hm, fst1_eq hk hm h3, if_pos hk]
    · refine Or.inl ⟨nI (a + (k + 1)), ⟨rfl, fun j hj => ?_⟩, fun K => ?_⟩
      · rcases Nat.lt_or_ge j k with h4 | h4
        · exact h3 j h4
        · rw [show j = k by omega]
          simpa using hm
      · rw [e, if_neg hm, ← Nat.add_assoc, nI_succ]
  · rintro i ⟨rfl, h3⟩ K
    unfold B_X1_meet_3
    rw [if_pos (nI_le (Nat.le_refl _) (by omega)), fst1_none h3, if_neg (Nat.lt_irrefl n)]
end CH
