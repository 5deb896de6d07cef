/-! WHAT CHANGES CHANGE: the reference's way -/
section MAc
variable {w : Wo} {B : Bd}
theorem MB.setC {i : Nat} {v : Int32} (hM : MB w 27 0 B) (h2 : 2 ≤ i) (hi : i < 8) : MB (pI w 27 i v) 27 0 (mkB B.r B.c B.cell B.goal B.bar (updC B.cn i v)) := by
  obtain ⟨h1, h22, h3, h4, h5, h6⟩ := hM
  refine ⟨?_, ?_, fun p hp => ?_, fun p hp => ?_, fun l hl => ?_, fun j a b => ?_⟩
  · rw [gI_pI, if_neg (by omega)]
    exact h1
  · rw [gI_pI, if_neg (by omega)]
    exact h22
  · rw [gI_pI, if_neg (by omega)]
    exact h3 p hp
  · rw [gI_pI, if_neg (by omega)]
    exact h4 p hp
  · rw [gI_pI, if_neg (by omega)]
    exact h5 l hl
  · show _ = if j = i then v else B.cn j
    by_cases e : j = i
    · rw [if_pos e, e, gI_pI, if_pos ⟨rfl, by omega⟩]
    · rw [if_neg e, gI_pI, if_neg (by omega)]
      exact h6 j a b
theorem MB.setCell (hB : B.ok) {p v : Nat} (hM : MB w 27 0 B) (hp : p < B.n) : MB (pI w 27 (14 + p) (nI v)) 27 0 (mkB B.r B.c (setf B.cell p v) B.goal B.bar B.cn) := by
  have hd := dims hB
  obtain ⟨h1, h22, h3, h4, h5, h6⟩ := hM
  refine ⟨?_, ?_, fun q hq => ?_, fun q hq => ?_, fun l hl => ?_, fun j a b => ?_⟩
  · rw [gI_pI, if_neg (by omega)]
    exact h1
  · rw [gI_pI, if_neg (by omega)]
    exact h22
  · show _ = nI (if q = p then v else B.cell q)
    by_cases e : q = p
    · rw [if_pos e, e, gI_pI, if_pos ⟨rfl, by omega⟩]
    · rw [if_neg e, gI_pI, if_neg (by omega)]
      exact h3 q hq
  · have hq2 : q < B.n := hq
    rw [gI_pI, if_neg (by omega)]
    exact h4 q hq
  · rw [gI_pI, if_neg (by omega)]
    exact h5 l hl
  · rw [gI_pI, if_neg (by omega)]
    exact h6 j a b
theorem MB.setGoal (hB : B.ok) {p v : Nat} (hM : MB w 27 0 B) (hp : p < B.n) : MB (pI w 27 (23 + p) (gv v)) 27 0 (mkB B.r B.c B.cell (setf B.goal p v) B.bar B.cn) := by
  have hd := dims hB
  obtain ⟨h1, h22, h3, h4, h5, h6⟩ := hM
  refine ⟨?_, ?_, fun q hq => ?_, fun q hq => ?_, fun l hl => ?_, fun j a b => ?_⟩
  · rw [gI_pI, if_neg (by omega)]
    exact h1
  · rw [gI_pI, if_neg (by omega)]
    exact h22
  · have hq2 : q < B.n := hq
    rw [gI_pI, if_neg (by omega)]
    exact h3 q hq
  · show _ = gv (if q = p then v else B.goal q)
    by_cases e : q = p
    · rw [if_pos e, e, gI_pI, if_pos ⟨rfl, by omega⟩]
    · rw [if_neg e, gI_pI, if_neg (by omega)]
      exact h4 q hq
  · rw [gI_pI, if_neg (by omega)]
    exact h5 l hl
  · rw [gI_pI, if_neg (by omega)]
    exact h6 j a b
theorem MB.setBar {l : Nat} {b : Bool} (hM : MB w 27 0 B) (hl : l < 6) : MB (pI w 27 (8 + l) (bI b)) 27 0 (mkB B.r B.c B.cell B.goal (fun j => if j = l then b else B.bar j) B.cn) := by
  obtain ⟨h1, h22, h3, h4, h5, h6⟩ := hM
  refine ⟨?_, ?_, fun q hq => ?_, fun q hq => ?_, fun j hj => ?_, fun j a b => ?_⟩
  · rw [gI_pI, if_neg (by omega)]
    exact h1
  · rw [gI_pI, if_neg (by omega)]
    exact h22
  · rw [gI_pI, if_neg (by omega)]
    exact h3 q hq
  · rw [gI_pI, if_neg (by omega)]
    exact h4 q hq
  · show _ = bI (if j = l then b else B.bar j)
    by_cases e : j = l
    · rw [if_pos e, e, gI_pI, if_pos ⟨rfl, by omega⟩]
    · rw [if_neg e, gI_pI, if_neg (by omega)]
      exact h5 j hj
  · rw [gI_pI, if_neg (by omega)]
    exact h6 j a b
theorem m_takes (hB : B.ok) (hM : MB w 27 0 B) {f : Nat → Nat} (hT : ∀ p, p < B.n → gI w 33 p = nI (f p)) : ∃ w', F_X6_takesTried w = some w' ∧ MB w' 27 0 (mkB B.r B.c f B.goal B.bar B.cn) ∧ Kf [27] [] w w' := by
  have hd := dims hB
  have hpl : ∀ k, F_X6_places (setr w 27 14 k (fun p => gI w 33 p)) = some (nI B.n) := by
    intro k
    unfold F_X6_places
    rw [gI_setr, if_neg (by omega), gI_setr, if_neg (by omega), hM.1, hM.2.1, pk_mul]
    rfl
  refine ⟨setr w 27 14 B.n (fun p => gI w 33 p), ?_, ?_, kf_setr (by decide)⟩
  · unfold F_X6_takesTried
    refine jl2_run (fun k => setr w 27 14 k (fun p => gI w 33 p)) (fun k => nI k) B.n (by rw [fu4]; omega) (fun k hk K => ?_) (fun K => ?_) setr_0 rfl
    · unfold B_X6_takesTried_2 B_X6_takesTried_25
      rw [hpl, Option.bind_some, if_neg (nI_ge hk (by omega)), L14, ofs, L0, jchk_nI (by omega) (by omega), jchk_nI (by omega) (by omega), nI_clamp (by omega), nI_clamp (by omega), nI_succ, gI_setr_ne (by decide), setr_succ rfl rfl]
    · unfold B_X6_takesTried_2
      rw [hpl, Option.bind_some, if_pos (nI_le (Nat.le_refl _) (by omega))]
  · obtain ⟨h1, h22, h3, h4, h5, h6⟩ := hM
    refine ⟨?_, ?_, fun q hq => ?_, fun q hq => ?_, fun j hj => ?_, fun j a b => ?_⟩
    · rw [gI_setr, if_neg (by omega)]
      exact h1
    · rw [gI_setr, if_neg (by omega)]
      exact h22
    · have hq2 : q < B.n := hq
      rw [gI_setr, if_pos ⟨rfl, by omega, by omega⟩, show 0 + 14 + q - 14 = q by omega]
      exact hT q hq
    · rw [gI_setr, if_neg (by omega)]
      exact h4 q hq
    · rw [gI_setr, if_neg (by omega)]
      exact h5 j hj
    · rw [gI_setr, if_neg (by omega)]
      exact h6 j a b
theorem m_makes (hB : B.ok) (hM : MB w 27 0 B) {t : Nat} (ht : t < 2 * (B.r + B.c)) : ∃ w', F_X6_makes w (nI t) = some (nI (homes B (tn B t B.cell)), w') ∧ MB w' 27 0 (mkT B t) ∧ Kf [27, 33, 34] [] w w' := by
  obtain ⟨u1, a1, a2, a3⟩ := m_tries hB hM
  have hM1 := a2.mb (by decide) hM
  obtain ⟨u2, b1, b2, b3⟩ := m_turnsTried hB hM1 a3 ht
  have hM2 := b2.mb (by decide) hM1
  obtain ⟨u3, c1, c2, c3⟩ := m_takes hB hM2 b3
  have e2 : gI u3 27 2 = B.cn 2 := c2.2.2.2.2.2 2 (by decide) (by decide)
  have hM4 : MB (pI u3 27 2 (B.cn 2 + 1)) 27 0 (mkT B t) := c2.setC (i := 2) (by decide) (by decide)
  have hT : ∀ p, p < (mkT B t).n → gI (pI u3 27 2 (B.cn 2 + 1)) 33 p = nI (tn B t B.cell p) := fun p hp => by
    rw [gI_pI, if_neg (by omega), c3.1 33 p (by decide) (fun e => absurd e (by decide))]
    exact b3 p hp
  refine ⟨pI u3 27 2 (B.cn 2 + 1), ?_, hM4, ((a2.kf (F := [])).tr (b2.kf (F := [])) (D := [33, 34]) (F := []) (by decide) (by decide) (by decide) (by decide)).tr (c3.tr (Kf.pI (D := [27]) (F := []) (by decide)) (D := [27]) (F := []) (by decide) (by decide) (by decide) (by decide)) (by decide) (by decide) (by decide) (by decide)⟩
  unfold F_X6_makes B_X6_makes_23
  rw [a1, Option.bind_some, b1, Option.bind_some, c1, Option.bind_some, e2, m_homeTried (mkT_ok hB ht) hM4 (f := tn B t B.cell) (fun p hp => hB.2.2.1 _ (bk_lt hB ht hp)) hT, Option.bind_some]
  rfl
theorem m_byHand (hB : B.ok) (hM : MB w 27 0 B) {t : Nat} (ht : t < 2 * (B.r + B.c)) : ∃ w', F_X6_makesByHand w (nI t) = some (nI (homes B (tn B t B.cell)), w') ∧ MB w' 27 0 (handT B t) ∧ Kf [27, 33, 34] [] w w' := by
  have hd := dims hB
  have hh1 : homes B B.cell ≤ B.n := cnt_le _ _
  have hh2 : homes B (tn B t B.cell) ≤ B.n := cnt_le _ _
  obtain ⟨u1, a1, a2⟩ := m_homes hB hM
  obtain ⟨u2, b1, b2, b3⟩ := m_makes hB (a2.mb (by decide) hM) ht
  have e7 : gI u2 27 7 = B.cn 7 := b2.2.2.2.2.2 7 (by decide) (by decide)
  have hk : Kf [27, 33, 34] [] w u2 := (a2.kf (F := [])).tr b3 (by decide) (by decide) (by decide) (by decide)
  have h37 : ∀ g : Bool, B_X6_makesByHand_37 u2 (nI (homes B (tn B t B.cell))) (bI g) (gI u2 27 7) 7 = some (nI (homes B (tn B t B.cell)), pI u2 27 7 (B.cn 7 + bI g)) := by
    intro g
    unfold B_X6_makesByHand_37 B_X6_makesByHand_39
    rw [jchk_pos (by decide), e7]
    rfl
  have e : F_X6_makesByHand w (nI t) = B_X6_makesByHand_37 u2 (nI (homes B (tn B t B.cell))) (bI (gain B t)) (gI u2 27 7) 7 := by
    unfold F_X6_makesByHand B_X6_makesByHand_36
    rw [a1, Option.bind_some, b1, Option.bind_some]
    show ((F_X6_places u2).bind fun q5 => (if nI (homes B (tn B t B.cell)) = q5 then (if nI (homes B (tn B t B.cell)) ≤ nI (homes B B.cell) then B_X6_makesByHand_37 u2 (nI (homes B (tn B t B.cell))) 0 (gI u2 27 7) 7 else B_X6_makesByHand_37 u2 (nI (homes B (tn B t B.cell))) 1 (gI u2 27 7) 7) else B_X6_makesByHand_37 u2 (nI (homes B (tn B t B.cell))) 0 (gI u2 27 7) 7)) = _
    rw [show F_X6_places u2 = some (nI B.n) from m_places (B := mkT B t) b2, Option.bind_some, iteq (by omega) (by omega), itle (by omega) (by omega)]
    unfold gain
    by_cases h1 : homes B (tn B t B.cell) = B.n
    · rw [if_pos h1, decide_eq_true h1]
      by_cases h2 : homes B B.cell = B.n
      · rw [if_pos (by omega), decide_eq_true h2]
        rfl
      · rw [if_neg (by omega), decide_eq_false h2]
        rfl
    · rw [if_neg h1, decide_eq_false h1, Bool.and_false]
      rfl
  refine ⟨pI u2 27 7 (B.cn 7 + bI (gain B t)), e.trans (h37 _), b2.setC (i := 7) (by decide) (by decide), hk.tr (Kf.pI (D := [27]) (F := []) (by decide)) (by decide) (by decide) (by decide) (by decide)⟩
end MAc
/-! an order: what it does to the two boards -/
def Ord (B : Bd) (k a b : Int32) (FM : Wo → Option (Int32 × Wo)) (tm : Nat → Int32) (VC : Wo → Wo → Option Int32) : Prop :=
  (∃ B' val, B'.ok ∧ (∀ w, CB w 1 B → F_X5_judge w k a b = some (0, w) ∧ ∃ w', F_X5_carryOut w k a b = some w' ∧ CB w' 1 B' ∧ Kd [1] w w') ∧ (∀ u, MB u 27 0 B → ∃ u', FM u = some (val, u') ∧ gI u' 26 14 = 0 ∧ MB u' 27 0 B' ∧ Kf [27, 33, 34] [14] u u') ∧ ∀ w w', CB w 1 B → CB w' 1 B' → VC w w' = some val) ∨
  (∃ n : Nat, (n = 1 ∨ n = 2) ∧ tm n ≠ 0 ∧ (∀ w, CB w 1 B → F_X5_judge w k a b = some (nI n, w)) ∧ ∀ u, MB u 27 0 B → FM u = some (0, pI (pI u 26 14 (tm n)) 26 11 0)) ∨
  (∃ (why : Nat) (det : Int32), 0 < why ∧ why < 6 ∧ tm 3 ≠ 0 ∧ (∀ w, CB w 1 B → F_X5_judge w k a b = some (3, pI (pI w 0 10 (nI why)) 0 11 det)) ∧ ∀ u, MB u 27 0 B → FM u = some (0, pI (pI (pI (pI u 26 9 (nI why)) 26 10 det) 26 14 (tm 3)) 26 11 1))
theorem side (a : Int32) : F_X6_in a 2 3 = 0 ∨ ∃ r : Nat, (r = 2 ∨ r = 3) ∧ a = nI r ∧ F_X6_in a 2 3 = 1 := by
  rcases ixc a 4 (by omega) with h | ⟨j, hj, rfl⟩
  · refine Or.inl ?_
    unfold F_X6_in
    by_cases h0 : a < 2
    · rw [if_pos h0]
    · rw [if_neg h0, if_pos]
      rw [Int32.lt_iff_toInt_lt] at h0 ⊢
      rw [show ((2 : Int32)).toInt = 2 by decide] at h0
      rw [show ((3 : Int32)).toInt = 3 by decide]
      rcases h with h | h
      · rw [Int32.lt_iff_toInt_lt, nI_toInt (by omega)] at h
        omega
      · rw [Int32.le_iff_toInt_le, nI_toInt (by omega)] at h
        omega
  · have : ∀ j, j < 4 → F_X6_in (nI j) 2 3 = 0 ∨ (j = 2 ∨ j = 3) ∧ F_X6_in (nI j) 2 3 = 1 := by decide
    rcases this j hj with h | ⟨h1, h2⟩
    · exact Or.inl h
    · exact Or.inr ⟨j, h1, rfl, h2⟩
def tmB (n : Nat) : Int32 := if n = 2 then 1 else 0
def tmP (n : Nat) : Int32 := if n = 1 then 1 else if n = 2 then 2 else if n = 3 then 3 else 0
def tmT (n : Nat) : Int32 := if n = 1 then 1 else if n = 3 then 2 else 0
def tmX (n : Nat) : Int32 := if n = 1 then 1 else 0
theorem isSide_in (a : Int32) : F_X5_isSide a = F_X6_in a 2 3 := rfl
/-- the reference's rows of numbers do not matter to a new board -/
theorem m_lays {w : Wo} {B : Bd} (hM : MB w 27 0 B) {r c : Nat} (hr : r = 2 ∨ r = 3) (hc : c = 2 ∨ c = 3) : ∃ w', F_X6_lays w (nI r) (nI c) = some w' ∧ MB w' 27 0 (mkB r c (fun p => p) (fun p => p) (fun _ => false) B.cn) ∧ Kf [27] [] w w' := by
  have h9 : r * c ≤ 9 := by rcases hr with rfl | rfl <;> rcases hc with rfl | rfl <;> decide
  have hcn := hM.2.2.2.2.2
  unfold F_X6_lays B_X6_lays_7 B_X6_lays_14
  refine jl2_inv (P := fun k u a => a = nI k ∧ Kf [27] [] w u ∧ gI u 27 0 = nI r ∧ gI u 27 1 = nI c ∧ (∀ p, p < k → p < r * c → gI u 27 (14 + p) = nI p ∧ gI u 27 (23 + p) = nI p) ∧ ∀ i, 2 ≤ i → i < 8 → gI u 27 i = B.cn i) (Qr := fun o => ∃ w', o = some w' ∧ MB w' 27 0 (mkB r c (fun p => p) (fun p => p) (fun _ => false) B.cn) ∧ Kf [27] [] w w') 9 (by rw [fu4]; omega) ?_ ?_ ⟨rfl, ?_, ?_, ?_, fun p hp => absurd hp (Nat.not_lt_zero p), ?_⟩
  · rintro k hk u a ⟨rfl, h1, h2, h3, h4, h5⟩
    have key : ∀ v : Int32, (k < r * c → v = nI k) → (∃ u', u' = pI (pI u 27 (14 + k) v) 27 (23 + k) v) ∧ Kf [27] [] w (pI (pI u 27 (14 + k) v) 27 (23 + k) v) ∧ gI (pI (pI u 27 (14 + k) v) 27 (23 + k) v) 27 0 = nI r ∧ gI (pI (pI u 27 (14 + k) v) 27 (23 + k) v) 27 1 = nI c ∧ (∀ p, p < k + 1 → p < r * c → gI (pI (pI u 27 (14 + k) v) 27 (23 + k) v) 27 (14 + p) = nI p ∧ gI (pI (pI u 27 (14 + k) v) 27 (23 + k) v) 27 (23 + p) = nI p) ∧ ∀ i, 2 ≤ i → i < 8 → gI (pI (pI u 27 (14 + k) v) 27 (23 + k) v) 27 i = B.cn i := by
      intro v hv
      refine ⟨⟨_, rfl⟩, h1.tr ((Kf.pI (D := [27]) (F := []) (by decide)).tr (Kf.pI (D := [27]) (F := []) (by decide)) (D := [27]) (F := []) (by decide) (by decide) (by decide) (by decide)) (by decide) (by decide) (by decide) (by decide), ?_, ?_, fun p hp hp2 => ⟨?_, ?_⟩, fun i a b => ?_⟩
      · rw [gI_pI, if_neg (by omega), gI_pI, if_neg (by omega)]
        exact h2
      · rw [gI_pI, if_neg (by omega), gI_pI, if_neg (by omega)]
        exact h3
      · rw [gI_pI, if_neg (by omega), gI_pI]
        by_cases e : p = k
        · rw [if_pos ⟨rfl, by omega⟩, e]
          exact hv (by omega)
        · rw [if_neg (by omega)]
          exact (h4 p (by omega) hp2).1
      · rw [gI_pI]
        by_cases e : p = k
        · rw [if_pos ⟨rfl, by omega⟩, e]
          exact hv (by omega)
        · rw [if_neg (by omega), gI_pI, if_neg (by omega)]
          exact (h4 p (by omega) hp2).2
      · rw [gI_pI, if_neg (by omega), gI_pI, if_neg (by omega)]
        exact h5 i a b
    refine Or.inl ?_
    by_cases hkc : k < r * c
    · obtain ⟨-, k1, k2, k3, k4, k5⟩ := key (nI k) (fun _ => rfl)
      refine ⟨pI (pI u 27 (14 + k) (nI k)) 27 (23 + k) (nI k), nI (k + 1), ⟨rfl, k1, k2, k3, k4, k5⟩, fun K => ?_⟩
      unfold B_X6_lays_16 B_X6_lays_42 B_X6_lays_43 B_X6_lays_63 B_X6_lays_64
      rw [pk_mul, L9, if_neg (nI_ge hk (by omega)), if_neg (nI_ge hkc (by omega)), if_neg (nI_ge hkc (by omega)), L14, L23, ofs, ofs, L0, jchk_nI (by omega) (by omega), jchk_nI (by omega) (by omega), nI_clamp (by omega), nI_clamp (by omega), nI_succ]
    · obtain ⟨-, k1, k2, k3, k4, k5⟩ := key 0 (fun h => absurd h hkc)
      refine ⟨pI (pI u 27 (14 + k) 0) 27 (23 + k) 0, nI (k + 1), ⟨rfl, k1, k2, k3, k4, k5⟩, fun K => ?_⟩
      unfold B_X6_lays_16 B_X6_lays_42 B_X6_lays_43 B_X6_lays_63 B_X6_lays_64
      rw [pk_mul, L9, if_neg (nI_ge hk (by omega)), if_pos (nI_le (by omega) (by omega)), if_pos (nI_le (by omega) (by omega)), L14, L23, ofs, ofs, L0, jchk_nI (by omega) (by omega), jchk_nI (by omega) (by omega), nI_clamp (by omega), nI_clamp (by omega), nI_succ]
  · rintro u a ⟨rfl, h1, h2, h3, h4, h5⟩ K
    refine ⟨setr u 27 8 6 (fun _ => 0), ?_, ⟨?_, ?_, fun p hp => ?_, fun p hp => ?_, fun l hl => ?_, fun i a b => ?_⟩, h1.tr (kf_setr (D := [27]) (F := []) (by decide)) (by decide) (by decide) (by decide) (by decide)⟩
    · unfold B_X6_lays_16 B_X6_lays_70
      rw [L9, if_pos (nI_le (Nat.le_refl _) (by omega))]
      refine jl2_run (fun k => setr u 27 8 k (fun _ => 0)) (fun k => nI k) 6 (by rw [fu4]; omega) (fun k hk K => ?_) (fun K => ?_) setr_0 rfl
      · unfold B_X6_lays_72 B_X6_lays_88
        rw [L6, if_neg (nI_ge hk (by omega)), L8, ofs, L0, jchk_nI (by omega) (by omega), nI_clamp (by omega), nI_succ, ← L0, setr_succ rfl rfl]
      · unfold B_X6_lays_72
        rw [L6, if_pos (nI_le (Nat.le_refl _) (by omega))]
    · rw [gI_setr, if_neg (by omega)]
      exact h2
    · rw [gI_setr, if_neg (by omega)]
      exact h3
    · have hp2 : p < r * c := hp
      rw [gI_setr, if_neg (by omega), Nat.zero_add]
      exact (h4 p (by omega) hp2).1
    · have hp2 : p < r * c := hp
      rw [gI_setr, if_neg (by omega), Nat.zero_add]
      show _ = gv p
      unfold gv
      rw [if_neg (by omega)]
      exact (h4 p (by omega) hp2).2
    · rw [gI_setr, if_pos ⟨rfl, by omega, by omega⟩]
      rfl
    · rw [gI_setr, if_neg (by omega), Nat.zero_add]
      exact h5 i a b
  · exact (Kf.pI (D := [27]) (F := []) (by decide)).tr (Kf.pI (D := [27]) (F := []) (by decide)) (by decide) (by decide) (by decide) (by decide)
  · show (if 27 = 27 ∧ 0 = 1 then nI c else if 27 = 27 ∧ 0 = 0 then nI r else gI w 27 0) = nI r
    rw [if_neg (by omega), if_pos ⟨rfl, rfl⟩]
  · show (if 27 = 27 ∧ 1 = 1 then nI c else if 27 = 27 ∧ 1 = 0 then nI r else gI w 27 1) = nI c
    rw [if_pos ⟨rfl, rfl⟩]
  · intro i h2 h8
    show (if 27 = 27 ∧ i = 1 then nI c else if 27 = 27 ∧ i = 0 then nI r else gI w 27 i) = B.cn i
    rw [if_neg (by omega), if_neg (by omega)]
    have := hcn i h2 h8
    rw [Nat.zero_add] at this
    exact this
