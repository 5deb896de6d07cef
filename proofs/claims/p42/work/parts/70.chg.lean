/-! THE CALLS THAT CHANGE -/
def Abs.wr (A : Abs) (why : Nat) (det : Int32) : Abs := mkA A.B A.sv A.S A.ct A.hs A.tl A.ip A.er why det A.ll A.ln
theorem Aok.wr {A : Abs} {why : Nat} {det : Int32} (h : Aok A) (hw : why < 6) : Aok (A.wr why det) := ⟨h.1, h.2.1, h.2.2.1, h.2.2.2.1, h.2.2.2.2.1, h.2.2.2.2.2.1, hw, h.2.2.2.2.2.2.2⟩
theorem CI.wr {w : Wo} {A : Abs} {why : Nat} {det : Int32} (h : CI w A) (h0 : 0 < why) : CI (pI (pI w 0 10 (nI why)) 0 11 det) (A.wr why det) := by
  have g : ∀ a, a ≠ 0 → ∀ b, gI (pI (pI w 0 10 (nI why)) 0 11 det) a b = gI w a b ∧ gL (pI (pI w 0 10 (nI why)) 0 11 det) a b = gL w a b := fun a h1 b => ⟨by rw [gI_pI, if_neg (by omega), gI_pI, if_neg (by omega)], rfl⟩
  have g0 : ∀ b, b ≠ 10 → b ≠ 11 → gI (pI (pI w 0 10 (nI why)) 0 11 det) 0 b = gI w 0 b := fun b h1 h2 => by rw [gI_pI, if_neg (by omega), gI_pI, if_neg (by omega)]
  obtain ⟨h1, ⟨h2, h3⟩, ⟨nx, h4, h5, h6, h7⟩, ⟨h8, h9⟩, h10, -, h13, h14⟩ := h
  refine ⟨CB_cg (g 1 (by decide)) h1, ⟨(g0 12 (by decide) (by decide)).trans h2, fun e => CB_cg (g 3 (by decide)) (h3 e)⟩, ⟨nx, h4, (g 4 (by decide) _).1.trans h5, (g 4 (by decide) _).1.trans h6, fun i hi => CB_cg (g (hix nx A.ct i) (by have := hix_r nx A.ct i; omega)) (h7 i hi)⟩, ⟨(g0 8 (by decide) (by decide)).trans h8, fun i hi => (g 25 (by decide) _).1.trans (h9 i hi)⟩, (g0 9 (by decide) (by decide)).trans h10, ⟨?_, fun _ => pI_same⟩, (g 19 (by decide) _).1.trans h13, fun i hi => (g 20 (by decide) _).1.trans (h14 i hi)⟩
  show _ = wyC why
  unfold wyC
  rw [if_neg (by omega), gI_pI, if_neg (by omega), pI_same]
theorem MI.wr {w w' : Wo} {A : Abs} {D F : List Nat} {why : Nat} {det : Int32} (h : MI w A) (hk : Kf D F w w') (hD : ∀ a, a ∈ [29, 30, 31, 32] → a ∉ D) (h26 : 26 ∉ D) (hF : ∀ b, b ∈ [3, 5, 7, 8, 13] → b ∉ F) (hB : MB w' 27 0 A.B) (h9 : gI w' 26 9 = nI why) (h10 : gI w' 26 10 = det) : MI w' (A.wr why det) := by
  have g : ∀ a, a ∈ [29, 30, 31, 32] → ∀ b, gI w' a b = gI w a b := fun a ha b => hk.1 a b (hD a ha) (fun e => by
    rw [e] at ha
    exact absurd ha (by decide))
  have f : ∀ b, b ∈ [3, 5, 7, 8, 13] → gI w' 26 b = gI w 26 b := fun b hb => hk.1 26 b h26 (fun _ => hF b hb)
  obtain ⟨h1, ⟨h2, h3⟩, ⟨h6, h7⟩, ⟨h8, h9'⟩, h10', -, h13, h14⟩ := h
  exact ⟨hB, ⟨(f 5 (by decide)).trans h2, fun e => MB_cg (g 30 (by decide)) (h3 e)⟩, ⟨(f 3 (by decide)).trans h6, fun i hi => MB_cg (g 29 (by decide)) (h7 i hi)⟩, ⟨(f 7 (by decide)).trans h8, fun i hi => (g 31 (by decide) _).trans (h9' i hi)⟩, (f 8 (by decide)).trans h10', ⟨h9, fun _ => h10⟩, (f 13 (by decide)).trans h13, fun i hi => (g 32 (by decide) _).trans (h14 i hi)⟩
theorem HC.kd {w w' : Wo} {D : List Nat} {ct : Nat} {hs : Nat → Bd} (h : HC w ct hs) (hk : Kd D w w') (hD : ∀ a, a ∈ rgD → a ∉ D) : HC w' ct hs := by
  obtain ⟨nx, h1, h2, h3, h4⟩ := h
  refine ⟨nx, h1, (hk 4 1 (hD 4 (by decide))).1.trans h2, (hk 4 2 (hD 4 (by decide))).1.trans h3, fun i hi => hk.cb (hD _ ?_) (h4 i hi)⟩
  have hr := hix_r nx ct i
  generalize hix nx ct i = y at hr
  have : ∀ y, y < 14 → 6 ≤ y → y ∈ rgD := by decide
  exact this y hr.2 hr.1
theorem HM.kf {w w' : Wo} {D F : List Nat} {ct : Nat} {hs : Nat → Bd} (h : HM w ct hs) (hk : Kf D F w w') (h29 : 29 ∉ D) (h26 : 26 ∉ D) (h3 : 3 ∉ F) : HM w' ct hs := ⟨(hk.1 26 3 h26 (fun _ => h3)).trans h.1, fun i hi => hk.mb h29 (by decide) (h.2 i hi)⟩
theorem MO.map {A A' : Abs} {k v : Int32} {F G : Wo → Option (Int32 × Wo)} {g : Int32 → Int32} (h : MO A A' k v F) (hG : ∀ u v u2, F u = some (v, u2) → G u = some (g v, u2)) : MO A A' k (g v) G := by
  intro u hu
  obtain ⟨u2, h1, h2⟩ := h u hu
  exact ⟨u2, hG u v u2 h1, h2⟩
theorem isCh_sO (x : Int32) : isCh (F_X5_signOf x) := by
  unfold F_X5_signOf
  by_cases h : x = 12
  · rw [if_pos h]
    unfold isCh
    decide
  · rw [if_neg h]
    exact isCh_c _
theorem hasBar_b (w : Wo) (x : Int32) : ∃ g : Bool, F_X0_hasBar w x = bI g := by
  unfold F_X0_hasBar
  by_cases h : (jshr (gI w 1 4) x) &&& (1 : Int32) = (1 : Int32)
  · exact ⟨true, if_pos h⟩
  · exact ⟨false, if_neg h⟩
