/-! UNDO, SAVE, RESTORE -/
def Abs.wb (A : Abs) (B : Bd) (ct : Nat) (hs : Nat → Bd) : Abs := mkA B A.sv A.S ct hs A.tl A.ip A.er A.wy A.dt A.ll A.ln
theorem CI.wb {w w' : Wo} {A : Abs} {D : List Nat} {B : Bd} {ct : Nat} {hs : Nat → Bd} (h : CI w A) (hk : Kd D w w') (hD : ∀ a, a ∈ [0, 3, 19, 20, 25] → a ∉ D) (hB : CB w' 1 B) (hH : HC w' ct hs) : CI w' (A.wb B ct hs) := by
  have g : ∀ a, a ∈ [0, 3, 19, 20, 25] → ∀ b, gI w' a b = gI w a b ∧ gL w' a b = gL w a b := fun a ha b => hk a b (hD a ha)
  obtain ⟨h1, ⟨h2, h3⟩, -, ⟨h8, h9⟩, h10, ⟨h11, h12⟩, h13, h14⟩ := h
  exact ⟨hB, ⟨((g 0 (by decide)) _).1.trans h2, fun e => CB_cg (g 3 (by decide)) (h3 e)⟩, hH, ⟨((g 0 (by decide)) _).1.trans h8, fun i hi => ((g 25 (by decide)) _).1.trans (h9 i hi)⟩, ((g 0 (by decide)) _).1.trans h10, ⟨((g 0 (by decide)) _).1.trans h11, fun e => ((g 0 (by decide)) _).1.trans (h12 e)⟩, ((g 19 (by decide)) _).1.trans h13, fun i hi => ((g 20 (by decide)) _).1.trans (h14 i hi)⟩
theorem MI.wb {w w' : Wo} {A : Abs} {D F : List Nat} {B : Bd} {ct : Nat} {hs : Nat → Bd} (h : MI w A) (hk : Kf D F w w') (hD : ∀ a, a ∈ [30, 31, 32] → a ∉ D) (h26 : 26 ∉ D) (hF : ∀ b, b ∈ [5, 7, 8, 9, 10, 13] → b ∉ F) (hB : MB w' 27 0 B) (hH : HM w' ct hs) : MI w' (A.wb B ct hs) := by
  have g : ∀ a, a ∈ [30, 31, 32] → ∀ b, gI w' a b = gI w a b := fun a ha b => hk.1 a b (hD a ha) (fun e => by
    rw [e] at ha
    exact absurd ha (by decide))
  have f : ∀ b, b ∈ [5, 7, 8, 9, 10, 13] → gI w' 26 b = gI w 26 b := fun b hb => hk.1 26 b h26 (fun _ => hF b hb)
  obtain ⟨h1, ⟨h2, h3⟩, -, ⟨h8, h9⟩, h10, ⟨h11, h12⟩, h13, h14⟩ := h
  exact ⟨hB, ⟨(f 5 (by decide)).trans h2, fun e => MB_cg (g 30 (by decide)) (h3 e)⟩, hH, ⟨(f 7 (by decide)).trans h8, fun i hi => (g 31 (by decide) _).trans (h9 i hi)⟩, (f 8 (by decide)).trans h10, ⟨(f 9 (by decide)).trans h11, fun e => (f 10 (by decide)).trans (h12 e)⟩, (f 13 (by decide)).trans h13, fun i hi => (g 32 (by decide) _).trans (h14 i hi)⟩
theorem Aok.wb {A : Abs} {B : Bd} {ct : Nat} {hs : Nat → Bd} (h : Aok A) (hB : B.ok) (hc : ct ≤ 8) (hh : ∀ i, i < ct → (hs i).ok) : Aok (A.wb B ct hs) := ⟨hB, h.2.1, hc, hh, h.2.2.2.2⟩
def Abs.wsv (A : Abs) : Abs := mkA A.B true A.B A.ct A.hs A.tl A.ip A.er A.wy A.dt A.ll A.ln
