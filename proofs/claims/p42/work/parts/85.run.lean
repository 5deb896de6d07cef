/-! THE CALL RUN -/
def Abs.fn (A : Abs) (er : Int32) : Abs := mkA A.B A.sv A.S A.ct A.hs 0 A.ip er A.wy A.dt A.ll A.ln
theorem Aok.fn {A : Abs} {er : Int32} (h : Aok A) : Aok (A.fn er) := ⟨h.1, h.2.1, h.2.2.1, h.2.2.2.1, Nat.zero_le 60, fun i hi => absurd hi (Nat.not_lt_zero i), h.2.2.2.2.2.2⟩
theorem CI.fn {w w1 : Wo} {A : Abs} {er : Int32} (h : CI w A) (hk : Kd [21, 22, 23, 24] w w1) : CI (pI (pI w1 0 9 er) 0 8 0) (A.fn er) := by
  have g : ∀ a, a ≠ 0 → a ∉ [21, 22, 23, 24] → ∀ b, gI (pI (pI w1 0 9 er) 0 8 0) a b = gI w a b ∧ gL (pI (pI w1 0 9 er) 0 8 0) a b = gL w a b := fun a h1 h2 b => ⟨by rw [gI_pI, if_neg (by omega), gI_pI, if_neg (by omega)]; exact (hk a b h2).1, (hk a b h2).2⟩
  have g0 : ∀ b, b ≠ 8 → b ≠ 9 → gI (pI (pI w1 0 9 er) 0 8 0) 0 b = gI w 0 b := fun b h1 h2 => by rw [gI_pI, if_neg (by omega), gI_pI, if_neg (by omega)]; exact (hk 0 b (by decide)).1
  obtain ⟨h1, ⟨h2, h3⟩, ⟨nx, h4, h5, h6, h7⟩, -, -, ⟨h11, h12⟩, h13, h14⟩ := h
  refine ⟨CB_cg (g 1 (by decide) (by decide)) h1, ⟨(g0 12 (by decide) (by decide)).trans h2, fun e => CB_cg (g 3 (by decide) (by decide)) (h3 e)⟩, ⟨nx, h4, (g 4 (by decide) (by decide) _).1.trans h5, (g 4 (by decide) (by decide) _).1.trans h6, fun i hi => CB_cg (g (hix nx A.ct i) (by have := hix_r nx A.ct i; omega) (by have := hix_r nx A.ct i; simp; omega)) (h7 i hi)⟩, ⟨pI_same, fun i hi => absurd hi (Nat.not_lt_zero i)⟩, ?_, ⟨(g0 10 (by decide) (by decide)).trans h11, fun e => (g0 11 (by decide) (by decide)).trans (h12 e)⟩, (g 19 (by decide) (by decide) _).1.trans h13, fun i hi => (g 20 (by decide) (by decide) _).1.trans (h14 i hi)⟩
  rw [gI_pI, if_neg (by omega), pI_same]
  rfl
theorem MI.fn {w u : Wo} {A : Abs} {D F : List Nat} {er : Int32} (h : MI w A) (hk : Kf D F w u) (hD : ∀ a, a ∈ [27, 29, 30, 32] → a ∉ D) (h26 : 26 ∉ D) (hF : ∀ b, b ∈ [3, 5, 9, 10, 13] → b ∉ F) (h7 : gI u 26 7 = 0) (h8 : gI u 26 8 = er) : MI u (A.fn er) := by
  have g : ∀ a, a ∈ [27, 29, 30, 32] → ∀ b, gI u a b = gI w a b := fun a ha b => hk.1 a b (hD a ha) (fun e => by
    rw [e] at ha
    exact absurd ha (by decide))
  have f : ∀ b, b ∈ [3, 5, 9, 10, 13] → gI u 26 b = gI w 26 b := fun b hb => hk.1 26 b h26 (fun _ => hF b hb)
  obtain ⟨h1, ⟨h2, h3⟩, ⟨h6, h7'⟩, -, -, ⟨h11, h12⟩, h13, h14⟩ := h
  exact ⟨MB_cg (g 27 (by decide)) h1, ⟨(f 5 (by decide)).trans h2, fun e => MB_cg (g 30 (by decide)) (h3 e)⟩, ⟨(f 3 (by decide)).trans h6, fun i hi => MB_cg (g 29 (by decide)) (h7' i hi)⟩, ⟨h7, fun i hi => absurd hi (Nat.not_lt_zero i)⟩, h8, ⟨(f 9 (by decide)).trans h11, fun e => (f 10 (by decide)).trans (h12 e)⟩, (f 13 (by decide)).trans h13, fun i hi => (g 32 (by decide) _).trans (h14 i hi)⟩
theorem rd_lt {tl : Nat} {cn : Nat → Nat} {a e : Nat} (ha : a ≤ tl) (h60 : tl ≤ 60) (hr : rd tl cn a = .inl e) : e < 1000 := by
  unfold rd rdo rd2 at hr
  have hle := (fg_le (tl := tl) (cn := cn) (fm (cn a)) 0 (a + 1)).2
  by_cases hk : (decide (a < tl) && isK (cn a)) = true
  · rw [if_pos hk] at hr
    rw [Bool.and_eq_true] at hk
    have hl := of_decide_eq_true hk.1
    have hle := hle (by omega)
    by_cases hd : isd tl cn (a + 1) = true
    · rw [if_pos hd] at hr
      generalize (fg tl cn (fm (cn a)) 0 (a + 1)).1 = v at hr
      generalize (fg tl cn (fm (cn a)) 0 (a + 1)).2 = b at hr hle
      generalize cn a = k at hr
      revert hr
      repeat' split
      all_goals (intro hr; first | (cases hr; omega) | cases hr)
    · rw [if_neg hd] at hr
      cases hr
      omega
  · rw [if_neg hk] at hr
    cases hr
    omega
section RNN
variable {tl : Nat} {cn : Nat → Nat}
end RNN
