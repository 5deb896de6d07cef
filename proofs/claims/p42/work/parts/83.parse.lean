/-! A TEXT OF ORDERS -/
def pos (tl : Nat) (cn : Nat → Nat) : Nat → Nat
  | 0 => 0
  | k + 1 => (match rd tl cn (pos tl cn k) with | .inl e => e | .inr q => q.1) + 1
def gd (tl : Nat) (cn : Nat → Nat) (k : Nat) : Bool := match rd tl cn (pos tl cn k) with | .inl _ => false | .inr q => sl tl cn 59 q.1
def NN (tl : Nat) (cn : Nat → Nat) : Nat := fst1 (fun k => !gd tl cn k) 21
/-- where the error is, if there is one -/
def pe (tl : Nat) (cn : Nat → Nat) : Option Nat := match rd tl cn (pos tl cn (NN tl cn)) with | .inl e => some e | .inr q => if q.1 < tl then some q.1 else none
section PRS
variable {tl : Nat} {cn : Nat → Nat}
theorem fg_ge (m v a : Nat) (h : isd tl cn a = true) : a + 1 ≤ (fg tl cn (m + 1) v a).2 := by
  rw [fg, if_pos h]
  exact (fg_le m _ (a + 1)).1
theorem rd_ok {a : Nat} {q : Nat × Nat × Nat × Nat × Nat} (h : rd tl cn a = .inr q) : a + 2 ≤ q.1 ∧ q.1 ≤ tl ∧ isK q.2.1 = true ∧ (q.2.1 = 112 → F_X5_codeOf (nI q.2.2.2.2) = nI q.2.2.2.1) ∧ (q.2.1 = 103 → F_X5_codeOf (nI q.2.2.2.2) = nI q.2.2.2.1) := by
  have r2o : ∀ k v b (q : Nat × Nat × Nat × Nat × Nat), rd2 tl cn k v b = .inr q → (k = 112 → F_X5_codeOf (nI q.2.2.2.2) = nI q.2.2.2.1) ∧ (k = 103 → F_X5_codeOf (nI q.2.2.2.2) = nI q.2.2.2.1) := by
    intro k v b q h
    have key : ∀ pt, lc tl cn pt b = true → F_X5_codeOf (nI (cn b)) = nI (lcv cn b) := by
      intro pt hl
      unfold lc at hl
      rw [Bool.and_eq_true] at hl
      have hc : cn b < 65536 := by
        have h2 := hl.2
        rw [Bool.or_eq_true] at h2
        rcases h2 with h2 | h2
        · rw [Bool.and_eq_true] at h2
          have := of_decide_eq_true h2.2
          omega
        · rw [Bool.and_eq_true] at h2
          have := of_decide_eq_true h2.2
          omega
      rw [codeOf_pk hc]
      unfold lcv
      by_cases h46 : cn b = 46
      · rw [if_pos h46, if_pos h46]
      · have hr : 97 ≤ cn b ∧ cn b ≤ 108 := by
          have := hl.2
          simp [h46] at this
          exact this
        rw [if_neg h46, if_neg h46, if_pos hr]
    unfold rd2 at h
    constructor
    · intro e
      rw [if_neg (by omega), if_pos e] at h
      by_cases hl : lc tl cn false b = true
      · rw [if_pos hl] at h
        cases h
        exact key _ hl
      · rw [if_neg hl] at h
        cases h
    · intro e
      rw [if_neg (by omega), if_neg (by omega), if_pos e] at h
      by_cases hl : lc tl cn true b = true
      · rw [if_pos hl] at h
        cases h
        exact key _ hl
      · rw [if_neg hl] at h
        cases h
  unfold rd at h
  by_cases hk : (decide (a < tl) && isK (cn a)) = true
  · rw [if_pos hk] at h
    rw [Bool.and_eq_true] at hk
    have hl := of_decide_eq_true hk.1
    by_cases hd : isd tl cn (a + 1) = true
    · rw [if_pos hd] at h
      have hd1 := isd_iff.mp hd
      have hge : a + 1 + 1 ≤ (fg tl cn (fm (cn a)) 0 (a + 1)).2 := by
        unfold fm
        split
        · exact fg_ge 2 0 (a + 1) hd
        · exact fg_ge 0 0 (a + 1) hd
      have hle := (fg_le (tl := tl) (cn := cn) (fm (cn a)) 0 (a + 1)).2 (by omega)
      have fin : ∀ b', (fg tl cn (fm (cn a)) 0 (a + 1)).2 ≤ b' → b' ≤ tl → rd2 tl cn (cn a) (fg tl cn (fm (cn a)) 0 (a + 1)).1 b' = .inr q → a + 2 ≤ q.1 ∧ q.1 ≤ tl ∧ isK q.2.1 = true ∧ (q.2.1 = 112 → F_X5_codeOf (nI q.2.2.2.2) = nI q.2.2.2.1) ∧ (q.2.1 = 103 → F_X5_codeOf (nI q.2.2.2.2) = nI q.2.2.2.1) := by
        intro b' h1 h2 h3
        obtain ⟨e1, e2, -, e4⟩ := rd2_k h3
        have e5 := r2o _ _ _ _ h3
        rw [e1]
        exact ⟨by omega, e4 h2, hk.2, e5.1, e5.2⟩
      unfold rdo at h
      by_cases h4 : cn a = 114
      · rw [if_pos h4] at h
        by_cases hs : sl tl cn 47 (fg tl cn (fm (cn a)) 0 (a + 1)).2 = true
        · rw [if_pos hs] at h
          have hs2 := hs
          unfold sl at hs2
          rw [Bool.and_eq_true] at hs2
          have := of_decide_eq_true hs2.1
          exact fin _ (by omega) (by omega) h
        · rw [if_neg hs] at h
          cases h
      · rw [if_neg h4] at h
        exact fin _ (Nat.le_refl _) hle h
    · rw [if_neg hd] at h
      cases h
  · rw [if_neg hk] at h
    cases h
theorem gd_q {k : Nat} (h : gd tl cn k = true) : ∃ q, rd tl cn (pos tl cn k) = .inr q ∧ sl tl cn 59 q.1 = true ∧ pos tl cn (k + 1) = q.1 + 1 := by
  unfold gd at h
  cases hr : rd tl cn (pos tl cn k) with
  | inl e =>
    rw [hr] at h
    cases h
  | inr q =>
    rw [hr] at h
    refine ⟨q, rfl, h, ?_⟩
    rw [pos, hr]
theorem sl_lt {c b : Nat} (h : sl tl cn c b = true) : b < tl ∧ cn b = c := by
  unfold sl at h
  rw [Bool.and_eq_true] at h
  exact ⟨of_decide_eq_true h.1, of_decide_eq_true h.2⟩
theorem pos_le : ∀ k, (∀ j, j < k → gd tl cn j = true) → 3 * k ≤ pos tl cn k ∧ pos tl cn k ≤ tl
  | 0, _ => ⟨Nat.le_refl 0, Nat.zero_le tl⟩
  | k + 1, h => by
    have ih := pos_le k (fun j hj => h j (by omega))
    obtain ⟨q, h1, h2, h3⟩ := gd_q (h k (by omega))
    have h4 := rd_ok h1
    have h5 := sl_lt h2
    rw [h3]
    omega
theorem NN_ok (hT : Txt tl cn) : NN tl cn < 21 ∧ (∀ k, k < NN tl cn → gd tl cn k = true) ∧ gd tl cn (NN tl cn) = false := by
  have h1 : NN tl cn < 21 := by
    rcases Nat.lt_or_ge (NN tl cn) 21 with h | h
    · exact h
    · have hall : ∀ k, k < 21 → gd tl cn k = true := fun k hk => by
        have := fst1_no (fun k => !gd tl cn k) 21 k (Nat.lt_of_lt_of_le hk h)
        simpa using this
      have := pos_le 21 hall
      have := hT.1
      omega
  refine ⟨h1, fun k hk => ?_, ?_⟩
  · have := fst1_no (fun k => !gd tl cn k) 21 k hk
    simpa using this
  · have h : (!gd tl cn (NN tl cn)) = true := fst1_yes (fun k => !gd tl cn k) 21 h1
    cases hg : gd tl cn (NN tl cn)
    · rfl
    · rw [hg] at h
      cases h
/-- the rows of orders -/
def RW (tl : Nat) (cn : Nat → Nat) (w : Wo) (j : Nat) : Prop := ∀ q, rd tl cn (pos tl cn j) = .inr q → gI w 22 j = nI q.2.1 ∧ gI w 23 j = nI q.2.2.1 ∧ gI w 24 j = nI q.2.2.2.1
def TW (tl : Nat) (cn : Nat → Nat) (u : Wo) (n : Nat) : Prop := ∀ q, rd tl cn (pos tl cn n) = .inr q → gI u 35 (3 * n) = nI q.2.1 ∧ gI u 35 (3 * n + 1) = nI q.2.2.1 ∧ ((q.2.1 = 112 ∨ q.2.1 = 103) → gI u 35 (3 * n + 2) = nI q.2.2.2.2) ∧ ((q.2.1 = 98 ∨ q.2.1 = 115 ∨ q.2.1 = 114) → gI u 35 (3 * n + 2) = nI q.2.2.2.1)
theorem c_read {w : Wo} (hT : Txt tl cn) (h25 : ∀ i, i < tl → gI w 25 i = nI (cn i)) : ∃ w', F_X4_read w (nI tl) = some (match pe tl cn with | some e => nI e | none => -1, w') ∧ Kd [21, 22, 23, 24] w w' ∧ (pe tl cn = none → gI w' 21 6 = nI (NN tl cn + 1) ∧ ∀ j, j ≤ NN tl cn → RW tl cn w' j) := by
  obtain ⟨n1, n2, n3⟩ := NN_ok hT
  have h60 := hT.1
  unfold F_X4_read B_X4_read_5 B_X4_read_10 B_X4_read_15 B_X4_read_20
  have k0 : Kd [21, 22, 23, 24] w (pI (pI (pI (pI w 21 3 1) 21 4 (nI tl)) 21 5 0) 21 6 0) := (((Kd.pI (D := [21]) (by decide)).tr (Kd.pI (D := [21]) (by decide)) (D := [21]) (fun _ h => h) (fun _ h => h)).tr ((Kd.pI (D := [21]) (by decide)).tr (Kd.pI (D := [21]) (by decide)) (D := [21]) (fun _ h => h) (fun _ h => h)) (D := [21]) (fun _ h => h) (fun _ h => h)).tr Kd.rf (D2 := [21]) (by decide) (by decide)
  have c0 : CS tl cn (pI (pI (pI (pI w 21 3 1) 21 4 (nI tl)) 21 5 0) 21 6 0) 0 := by
    refine ⟨?_, ?_, ?_, fun i hi => (k0 25 i (by decide)).1.trans (h25 i hi)⟩
    · rw [gI_pI, if_neg (by omega), gI_pI, if_neg (by omega), gI_pI, if_neg (by omega), pI_same]
    · rw [gI_pI, if_neg (by omega), gI_pI, if_neg (by omega), pI_same]
    · rw [gI_pI, if_neg (by omega), pI_same]
      rfl
  have c6 : gI (pI (pI (pI (pI w 21 3 1) 21 4 (nI tl)) 21 5 0) 21 6 0) 21 6 = nI 0 := pI_same
  generalize pI (pI (pI (pI w 21 3 1) 21 4 (nI tl)) 21 5 0) 21 6 0 = w0 at k0 c0 c6
  refine jl2_ivK (P := fun k u x => x = nI k ∧ CS tl cn u (pos tl cn k) ∧ gI u 21 6 = nI k ∧ Kd [21, 22, 23, 24] w u ∧ ∀ j, j < k → RW tl cn u j) (Qr := fun r => ∃ w', r = some (match pe tl cn with | some e => nI e | none => -1, w') ∧ Kd [21, 22, 23, 24] w w' ∧ (pe tl cn = none → gI w' 21 6 = nI (NN tl cn + 1) ∧ ∀ j, j ≤ NN tl cn → RW tl cn w' j)) (NN tl cn) ?_ ?_ (NN tl cn) 0 fu w0 0 (by omega) (by rw [fu4]; omega) ⟨rfl, c0, c6, k0, fun j h => absurd h (Nat.not_lt_zero j)⟩
  · rintro k hk u x ⟨rfl, h1, h2, h3, h4⟩ K
    have hp := pos_le k (fun j hj => n2 j (by omega))
    obtain ⟨q, q1, q2, q3⟩ := gd_q (n2 k hk)
    have hs := sl_lt q2
    obtain ⟨r, u1, g1, g2, g3⟩ := c_order hT h1 h2 (by omega) hp.2
    rw [q1] at g3
    obtain ⟨rfl, o1, o2, o3, o4⟩ := g3
    obtain ⟨u2, t1, t2, t3⟩ := c_take (c := 59) hT o1 (by omega) (by decide) (by decide)
    have es : (decide (q.1 < tl) && decide (cn q.1 = 59)) = true := q2
    rw [es] at t1 t3
    refine Or.inl ⟨u2, nI (k + 1), ⟨rfl, ?_, (t2 21 6 (fun _ => by decide)).1.trans o2, (h3.tr g2 (fun _ h => h) (fun _ h => h)).tr t2.kd (fun _ h => h) (fun _ h => h), fun j hj => ?_⟩, ?_⟩
    · rw [q3]
      exact o1.go t2 t3
    · intro q' hq'
      have e22 : ∀ a, a = 22 ∨ a = 23 ∨ a = 24 → gI u2 a j = gI u1 a j := fun a ha => (t2 a j (fun e => by omega)).1
      rw [e22 22 (by omega), e22 23 (by omega), e22 24 (by omega)]
      by_cases e : j = k
      · subst e
        rw [q1] at hq'
        cases hq'
        exact o3
      · have := o4 j e
        rw [this.1, this.2.1, this.2.2]
        exact h4 j (by omega) q' hq'
    · unfold B_X4_read_22
      rw [L60, if_neg (nI_ge (by omega) (by omega)), g1, Option.bind_some]
      show (if (1 : Int32) = 0 then _ else if gI u1 21 5 < gI u1 21 4 then (F_X4_take u1 59).bind _ else _) = _
      rw [if_neg (by decide), o1.2.2.1, o1.2.1, if_pos (nI_lt hs.1 (by omega)), show F_X4_take u1 59 = _ from t1, Option.bind_some, nI_succ]
      rfl
  · rintro u x ⟨rfl, h1, h2, h3, h4⟩ K
    have hp := pos_le (NN tl cn) n2
    obtain ⟨r, u1, g1, g2, g3⟩ := c_order hT h1 h2 (by omega) hp.2
    have hk := h3.tr g2 (D := [21, 22, 23, 24]) (fun _ h => h) (fun _ h => h)
    unfold B_X4_read_22 pe
    rw [L60, if_neg (nI_ge (by omega) (by omega)), g1, Option.bind_some]
    unfold gd at n3
    cases hr : rd tl cn (pos tl cn (NN tl cn)) with
    | inl e =>
      rw [hr] at g3
      obtain ⟨rfl, g5⟩ := g3
      refine ⟨u1, ?_, hk, fun e => by cases e⟩
      show B_X4_read_68 u1 = _
      unfold B_X4_read_68
      rw [g5]
    | inr q =>
      rw [hr] at g3 n3
      obtain ⟨rfl, o1, o2, o3, o4⟩ := g3
      have hq := rd_ok hr
      show ∃ w', (if (1 : Int32) = 0 then _ else if gI u1 21 5 < gI u1 21 4 then (F_X4_take u1 59).bind _ else _) = _ ∧ _
      rw [if_neg (by decide), o1.2.2.1, o1.2.1]
      by_cases hlt : q.1 < tl
      · obtain ⟨u2, t1, t2, t3⟩ := c_take (c := 59) hT o1 (by omega) (by decide) (by decide)
        have es : (decide (q.1 < tl) && decide (cn q.1 = 59)) = false := n3
        rw [es] at t1 t3
        refine ⟨u2, ?_, hk.tr t2.kd (fun _ h => h) (fun _ h => h), fun e => ?_⟩
        · rw [if_pos (nI_lt hlt (by omega)), show F_X4_take u1 59 = _ from t1, Option.bind_some]
          show B_X4_read_57 u2 = _
          unfold B_X4_read_57
          rw [t3]
          show _ = some (match (if q.1 < tl then some q.1 else none) with | some e => nI e | none => -1, u2)
          rw [if_pos hlt]
          rfl
        · have e : (if q.1 < tl then some q.1 else none) = none := e
          rw [if_pos hlt] at e
          cases e
      · refine ⟨u1, ?_, hk, fun _ => ⟨o2, fun j hj => ?_⟩⟩
        · rw [if_neg (nI_nlt (by omega) (by omega))]
          show _ = some (match (if q.1 < tl then some q.1 else none) with | some e => nI e | none => -1, u1)
          rw [if_neg hlt]
        · intro q' hq'
          by_cases e : j = NN tl cn
          · rw [e, hr] at hq'
            cases hq'
            rw [e]
            exact o3
          · have := o4 j e
            rw [this.1, this.2.1, this.2.2]
            exact h4 j (by omega) q' hq'
theorem MS59 (hT : Txt tl cn) (b : Nat) : hrI tl cn b = 59 ↔ sl tl cn 59 b = true := by
  unfold hrI sl
  by_cases hl : b < tl
  · have hc := hT.2 b hl
    rw [if_pos hl, decide_eq_true hl, Bool.true_and, show (59 : Int32) = nI 59 from rfl, nI_eq (by omega) (by omega), decide_eq_true_iff]
  · rw [if_neg hl, decide_eq_false hl]
    constructor
    · intro q
      exact absurd q (by decide)
    · intro q
      cases q
end PRS
