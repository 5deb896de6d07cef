/-! FROM THE START, FOR EVERY CALL -/
theorem jl2_gD {f : (Wo → Int32 → Option Wo) → Wo → Int32 → Option Wo} (hf : ∀ K : Wo → Int32 → Option Wo, (∀ u a w', K u a = some w' → w'.2.2 = u.2.2) → ∀ u a w', f K u a = some w' → w'.2.2 = u.2.2) : ∀ F u a w', jl2 f F u a = some w' → w'.2.2 = u.2.2
  | 0, u, a, w', h => by cases h
  | F + 1, u, a, w', h => hf (jl2 f F) (jl2_gD hf F) u a w' h
theorem lay_gD {w w' : Wo} {r c : Int32} (h : F_X0_lay w r c = some w') : w'.2.2 = w.2.2 := by
  unfold F_X0_lay B_X0_lay_5 B_X0_lay_10 B_X0_lay_15 at h
  refine (jl2_gD (fun K hK u a w' h => ?_) fu _ _ _ h).trans rfl
  unfold B_X0_lay_17 B_X0_lay_38 at h
  by_cases h1 : F_X0_places u ≤ a
  · rw [if_pos h1] at h
    cases h
    rfl
  · rw [if_neg h1] at h
    exact (hK _ _ _ h).trans rfl
def Bd0 : Bd := mkB 3 3 (fun p => p) (fun p => p) (fun _ => false) (fun _ => 0)
theorem Bd0_ok : Bd0.ok := ⟨Or.inr rfl, Or.inr rfl, fun p hp => by have h : p < 3 * 3 := hp; show p < 12; omega, fun p hp => by have h : p < 3 * 3 := hp; show p < 13; omega, fun _ _ => rfl⟩
def A0 : Abs := mkA Bd0 false Bd0 0 (fun _ => Bd0) 0 (fun _ => 0) (-1) 0 0 0 (fun _ => 0)
theorem A0_ok : Aok A0 := ⟨Bd0_ok, fun e => (by cases e), Nat.zero_le 8, fun i h => absurd h (Nat.not_lt_zero i), Nat.zero_le 60, fun i h => absurd h (Nat.not_lt_zero i), by show 0 < 6; omega, Nat.zero_le 11, fun i h => absurd h (Nat.not_lt_zero i)⟩
theorem start_CB : CB N_X5 1 (mkB 3 3 (fun _ => 0) (fun _ => 0) (fun _ => false) (fun _ => 0)) := by
  have e2 : gL N_X5 1 2 = 0 := by decide +kernel
  have e3 : gL N_X5 1 3 = 0 := by decide +kernel
  have e0 : gI N_X5 1 0 = nI 3 := by decide +kernel
  have e1 : gI N_X5 1 1 = nI 3 := by decide +kernel
  have e4 : gI N_X5 1 4 = nI 0 := by decide +kernel
  refine ⟨e0, e1, fun p _ => by rw [e2]; exact nib_0 p, fun p _ => by rw [e3]; exact nib_0 p, ⟨0, by decide, e4, fun l _ => Nat.zero_testBit l⟩, fun i h1 h2 => ?_⟩
  have : ∀ i, i < 8 → 2 ≤ i → gI N_X5 1 (i + 3) = 0 := by decide +kernel
  exact this i h2 h1
theorem N_fr : ∀ h k, 26 ≤ h → gI N_X5 h k = 0 ∧ gL N_X5 h k = 0 := by
  intro h k hh
  constructor
  · unfold N_X5 N_X4 N_X3 N_X1 N_X2 N_X0
    simp only [gI_pI, gI_pL]
    repeat rw [if_neg (by omega)]
    rfl
  · unfold N_X5 N_X4 N_X3 N_X1 N_X2 N_X0
    simp only [gL_pI, gL_pL]
    repeat rw [if_neg (by omega)]
    rfl
theorem K_all {w : Wo} (hI : Inv w) (t x1 x2 x3 : Int32) : ∃ w', F_K w t x1 x2 x3 = some w' ∧ Inv w' := by
  unfold F_K
  by_cases h0 : t = 0
  · rw [if_pos h0]
    exact K_0 hI x1 x2 x3
  rw [if_neg h0]
  by_cases h1 : t = 1
  · rw [if_pos h1]
    exact K_1 hI x1 x2 x3
  rw [if_neg h1]
  by_cases h2 : t = 2
  · rw [if_pos h2]
    exact K_2 hI x1 x2 x3
  rw [if_neg h2]
  by_cases h3 : t = 3
  · rw [if_pos h3]
    exact K_3 hI x1 x2 x3
  rw [if_neg h3]
  by_cases h4 : t = 4
  · rw [if_pos h4]
    exact K_4 hI x1 x2 x3
  rw [if_neg h4]
  by_cases h5 : t = 5
  · rw [if_pos h5]
    exact K_5 hI x1 x2 x3
  rw [if_neg h5]
  by_cases h6 : t = 6
  · rw [if_pos h6]
    exact K_6 hI x1 x2 x3
  rw [if_neg h6]
  by_cases h7 : t = 7
  · rw [if_pos h7]
    exact K_7 hI x1 x2 x3
  rw [if_neg h7]
  by_cases h8 : t = 8
  · rw [if_pos h8]
    exact K_8 hI x1 x2 x3
  rw [if_neg h8]
  by_cases h9 : t = 9
  · rw [if_pos h9]
    exact K_9 hI x1 x2 x3
  rw [if_neg h9]
  by_cases h10 : t = 10
  · rw [if_pos h10]
    exact K_10 hI x1 x2 x3
  rw [if_neg h10]
  by_cases h11 : t = 11
  · rw [if_pos h11]
    exact K_11 hI x1 x2 x3
  rw [if_neg h11]
  by_cases h12 : t = 12
  · rw [if_pos h12]
    exact K_12 hI x1 x2 x3
  rw [if_neg h12]
  by_cases h13 : t = 13
  · rw [if_pos h13]
    exact K_13 hI x1 x2 x3
  rw [if_neg h13]
  by_cases h14 : t = 14
  · rw [if_pos h14]
    exact K_14 hI x1 x2 x3
  rw [if_neg h14]
  by_cases h15 : t = 15
  · rw [if_pos h15]
    exact K_15 hI x1 x2 x3
  rw [if_neg h15]
  by_cases h16 : t = 16
  · rw [if_pos h16]
    exact K_16 hI x1 x2 x3
  rw [if_neg h16]
  by_cases h17 : t = 17
  · rw [if_pos h17]
    exact K_17 hI x1 x2 x3
  rw [if_neg h17]
  by_cases h18 : t = 18
  · rw [if_pos h18]
    exact K_18 hI x1 x2 x3
  rw [if_neg h18]
  by_cases h19 : t = 19
  · rw [if_pos h19]
    exact K_19 hI x1 x2 x3
  rw [if_neg h19]
  by_cases h20 : t = 20
  · rw [if_pos h20]
    exact K_20 hI x1 x2 x3
  rw [if_neg h20]
  by_cases h21 : t = 21
  · rw [if_pos h21]
    exact K_21 hI x1 x2 x3
  rw [if_neg h21]
  by_cases h22 : t = 22
  · rw [if_pos h22]
    exact K_22 hI x1 x2 x3
  rw [if_neg h22]
  by_cases h23 : t = 23
  · rw [if_pos h23]
    exact K_23 hI x1 x2 x3
  rw [if_neg h23]
  by_cases h24 : t = 24
  · rw [if_pos h24]
    exact K_24 hI x1 x2 x3
  rw [if_neg h24]
  by_cases h25 : t = 25
  · rw [if_pos h25]
    exact K_25 hI x1 x2 x3
  rw [if_neg h25]
  by_cases h26 : t = 26
  · rw [if_pos h26]
    exact K_26 hI x1 x2 x3
  rw [if_neg h26]
  by_cases h27 : t = 27
  · rw [if_pos h27]
    exact K_27 hI x1 x2 x3
  rw [if_neg h27]
  by_cases h28 : t = 28
  · rw [if_pos h28]
    exact K_28 hI x1 x2 x3
  rw [if_neg h28]
  by_cases h29 : t = 29
  · rw [if_pos h29]
    exact K_29 hI x1 x2 x3
  rw [if_neg h29]
  by_cases h30 : t = 30
  · rw [if_pos h30]
    exact K_30 hI x1 x2 x3
  rw [if_neg h30]
  by_cases h31 : t = 31
  · rw [if_pos h31]
    exact K_31 hI x1 x2 x3
  rw [if_neg h31]
  by_cases h32 : t = 32
  · rw [if_pos h32]
    exact K_32 hI x1 x2 x3
  rw [if_neg h32]
  by_cases h33 : t = 33
  · rw [if_pos h33]
    exact K_33 hI x1 x2 x3
  rw [if_neg h33]
  by_cases h34 : t = 34
  · rw [if_pos h34]
    exact K_34 hI x1 x2 x3
  rw [if_neg h34]
  by_cases h35 : t = 35
  · rw [if_pos h35]
    exact K_35 hI x1 x2 x3
  rw [if_neg h35]
  by_cases h36 : t = 36
  · rw [if_pos h36]
    exact K_36 hI x1 x2 x3
  rw [if_neg h36]
  by_cases h37 : t = 37
  · rw [if_pos h37]
    exact K_37 hI x1 x2 x3
  rw [if_neg h37]
  by_cases h38 : t = 38
  · rw [if_pos h38]
    exact K_38 hI x1 x2 x3
  rw [if_neg h38]
  exact ⟨w, rfl, hI⟩
theorem pure_all : ∃ (I : Wo → Prop) (w1 w2 : Wo), F_X0_lay N_X5 3 3 = some w1 ∧ Fr 26 w1 ∧ F_X6_lays (N_X6 w1) 3 3 = some w2 ∧ Fr 36 w2 ∧ I w2 ∧ ∀ w t x1 x2 x3, I w → ∃ w', F_K w t x1 x2 x3 = some w' ∧ I w' := by
  obtain ⟨w1, h1, h2, h3⟩ := c_lay start_CB (r := 3) (c := 3) (Or.inr rfl) (Or.inr rfl)
  have hgD : w1.2.2 = w0.2.2 := (lay_gD h1).trans rfl
  have f1 : Fr 26 w1 := fun h k hh => ⟨(h3 h k (by simp; omega)).1.trans (N_fr h k hh).1, (h3 h k (by simp; omega)).2.trans (N_fr h k hh).2, by show w1.2.2 h k = 0; rw [hgD]; rfl⟩
  have hz : ∀ a b, 26 ≤ a → (a = 26 → b ≠ 8) → gI (N_X6 w1) a b = 0 := fun a b ha hb => by
    unfold N_X6
    rw [gI_pI, if_neg (fun q => hb q.1 q.2)]
    exact (f1 a b ha).1
  have hM0 : MB (N_X6 w1) 27 0 (mkB 0 0 (fun _ => 0) (fun _ => 0) (fun _ => false) (fun _ => 0)) := ⟨hz 27 _ (by omega) (fun e => absurd e (by decide)), hz 27 _ (by omega) (fun e => absurd e (by decide)), fun p hp => absurd hp (Nat.not_lt_zero p), fun p hp => absurd hp (Nat.not_lt_zero p), fun l _ => hz 27 _ (by omega) (fun e => absurd e (by decide)), fun i _ _ => hz 27 _ (by omega) (fun e => absurd e (by decide))⟩
  obtain ⟨w2, g1, g2, g3⟩ := m_lays hM0 (r := 3) (c := 3) (Or.inr rfl) (Or.inr rfl)
  have hlow : ∀ a b, a < 26 → a ≠ 1 → gI w2 a b = gI N_X5 a b ∧ gL w2 a b = gL N_X5 a b := by
    intro a b ha h1
    have q := (g3.agc (by decide)) a b ha
    have q2 := h3 a b (by simp; omega)
    refine ⟨q.1.trans ?_, q.2.trans ?_⟩
    · unfold N_X6
      rw [gI_pI, if_neg (by omega)]
      exact q2.1
    · exact q2.2
  refine ⟨Inv, w1, w2, h1, f1, g1, fun h k hh => ⟨?_, ?_, ?_⟩, ⟨A0, A0_ok, ?_, ?_⟩, fun w t x1 x2 x3 hI => K_all hI t x1 x2 x3⟩
  · rw [g3.1 h k (by simp; omega) (fun e => by omega)]
    exact hz h k (by omega) (fun e => by omega)
  · rw [g3.2.1]
    exact (f1 h k (by omega)).2.1
  · rw [g3.2.2]
    exact (f1 h k (by omega)).2.2
  · have hcb : CB w2 1 Bd0 := CB_cg (fun b => by
      have q := (g3.agc (by decide)) 1 b (by omega)
      refine ⟨q.1.trans ?_, q.2⟩
      unfold N_X6
      rw [gI_pI, if_neg (by omega)]) h2
    refine ⟨hcb, ⟨(hlow 0 12 (by omega) (by omega)).1.trans (by decide +kernel), fun e => (by cases e)⟩, ⟨0, by omega, (hlow 4 1 (by omega) (by omega)).1.trans (by decide +kernel), (hlow 4 2 (by omega) (by omega)).1.trans (by decide +kernel), fun i h => absurd h (Nat.not_lt_zero i)⟩, ⟨(hlow 0 8 (by omega) (by omega)).1.trans (by decide +kernel), fun i h => absurd h (Nat.not_lt_zero i)⟩, (hlow 0 9 (by omega) (by omega)).1.trans (by decide +kernel), ⟨(hlow 0 10 (by omega) (by omega)).1.trans (by decide +kernel), fun e => absurd rfl e⟩, (hlow 19 1 (by omega) (by omega)).1.trans (by decide +kernel), fun i h => absurd h (Nat.not_lt_zero i)⟩
  · have q : ∀ b, b ≠ 8 → gI w2 26 b = 0 := fun b hb => by
      rw [g3.1 26 b (by decide) (fun _ => by simp)]
      exact hz 26 b (by omega) (fun _ => hb)
    have q8 : gI w2 26 8 = -1 := by
      rw [g3.1 26 8 (by decide) (fun _ => by simp)]
      unfold N_X6
      exact pI_same
    exact ⟨g2, ⟨q 5 (by omega), fun e => (by cases e)⟩, ⟨q 3 (by omega), fun i h => absurd h (Nat.not_lt_zero i)⟩, ⟨q 7 (by omega), fun i h => absurd h (Nat.not_lt_zero i)⟩, q8, ⟨q 9 (by omega), fun e => absurd rfl e⟩, q 13 (by omega), fun i h => absurd h (Nat.not_lt_zero i)⟩
