/-! AN ORDER READ BY THE REFERENCE -/
def MS (tl : Nat) (cn : Nat → Nat) (u : Wo) (a : Nat) (g : Bool) : Prop := gI u 26 7 = nI tl ∧ gI u 26 18 = nI a ∧ gI u 26 19 = bI g ∧ ∀ i, i < tl → gI u 31 i = nI (cn i)
section RDM
variable {tl : Nat} {cn : Nat → Nat} {u : Wo} {a : Nat} {g : Bool}
theorem MS.sp (h : MS tl cn u a g) {a' : Nat} : MS tl cn (pI u 26 18 (nI a')) a' g := ⟨by rw [gI_pI, if_neg (by omega)]; exact h.1, pI_same, by rw [gI_pI, if_neg (by omega)]; exact h.2.2.1, fun i hi => by rw [gI_pI, if_neg (by omega)]; exact h.2.2.2 i hi⟩
theorem MS.wr (h : MS tl cn u a g) {g' : Bool} : MS tl cn (pI u 26 19 (bI g')) a g' := ⟨by rw [gI_pI, if_neg (by omega)]; exact h.1, by rw [gI_pI, if_neg (by omega)]; exact h.2.1, pI_same, fun i hi => by rw [gI_pI, if_neg (by omega)]; exact h.2.2.2 i hi⟩
theorem MS.told (h : MS tl cn u a g) {i : Nat} {v : Int32} : MS tl cn (pI u 35 i v) a g := ⟨by rw [gI_pI, if_neg (by omega)]; exact h.1, by rw [gI_pI, if_neg (by omega)]; exact h.2.1, by rw [gI_pI, if_neg (by omega)]; exact h.2.2.1, fun j hj => by rw [gI_pI, if_neg (by omega)]; exact h.2.2.2 j hj⟩
def hrI (tl : Nat) (cn : Nat → Nat) (a : Nat) : Int32 := if a < tl then nI (cn a) else -1
/-- what the reference has behind an order -/
def OM (tl : Nat) (cn : Nat → Nat) (u : Wo) (n : Nat) : Nat ⊕ (Nat × Nat × Nat × Nat × Nat) → Prop
  | .inl e => MS tl cn u e true
  | .inr q => MS tl cn u q.1 false ∧ gI u 35 (3 * n) = nI q.2.1 ∧ gI u 35 (3 * n + 1) = nI q.2.2.1 ∧ ((q.2.1 = 112 ∨ q.2.1 = 103) → gI u 35 (3 * n + 2) = nI q.2.2.2.2) ∧ ((q.2.1 = 98 ∨ q.2.1 = 115 ∨ q.2.1 = 114) → gI u 35 (3 * n + 2) = nI q.2.2.2.1)
/-- only what is told of this order changes -/
def Kt (n : Nat) (u u' : Wo) : Prop := Kf [35] [18, 19] u u' ∧ ∀ i, i < 3 * n → gI u' 35 i = gI u 35 i
theorem Kt.k {n : Nat} {u u' : Wo} (h : Kf [] [18, 19] u u') : Kt n u u' := ⟨h.mono (by decide) (fun _ h => h), fun i _ => h.1 35 i (by decide) (fun e => absurd e (by decide))⟩
theorem Kt.p {n i : Nat} {u : Wo} {v : Int32} (h : 3 * n ≤ i) : Kt n u (pI u 35 i v) := ⟨Kf.pI (by decide), fun j hj => by rw [gI_pI, if_neg (by omega)]⟩
theorem Kt.tr {n : Nat} {u u' u2 : Wo} (h : Kt n u u') (h2 : Kt n u' u2) : Kt n u u2 := ⟨h.1.tr h2.1 (fun _ h => h) (fun _ h => h) (fun _ h => h) (fun _ h => h), fun i hi => (h2.2 i hi).trans (h.2 i hi)⟩
theorem m_t2 {n : Nat} (hn : n < 50) {q : Int32 × Wo} : jchk (¬ ((nI (3 * n) + (2 : Int32)) < 0 ∨ 180 ≤ Int32.toNatClampNeg (nI (3 * n) + (2 : Int32)))) (some ((pI q.2 35 (Int32.toNatClampNeg (nI (3 * n) + (2 : Int32))) q.1))) = some (pI q.2 35 (3 * n + 2) q.1) := by
  rw [show nI (3 * n) + (2 : Int32) = nI (3 * n + 2) from nI_add _ 2, jchk_n0 (by omega) (by omega), nI_clamp (by omega)]
theorem j189 {n : Nat} (hn : n < 50) : (fun q9 : Int32 × Wo => jchk (¬ (nI (3 * n + 2) < 0 ∨ 180 ≤ Int32.toNatClampNeg (nI (3 * n + 2)))) (some ((pI q9.2 35 (Int32.toNatClampNeg (nI (3 * n + 2))) q9.1)))) = fun q9 => some (pI q9.2 35 (3 * n + 2) q9.1) := by
  funext q9
  rw [jchk_n0 (by omega) (by omega), nI_clamp (by omega)]
theorem j1 {n : Nat} (hn : n < 50) {f : Wo → Int32 → Option Wo} : (fun q3 : Int32 × Wo => jchk (¬ ((nI (3 * n) + (1 : Int32)) < 0 ∨ 180 ≤ Int32.toNatClampNeg (nI (3 * n) + (1 : Int32)))) (f (pI q3.2 35 (Int32.toNatClampNeg (nI (3 * n) + (1 : Int32))) q3.1) (nI (3 * n)))) = fun q3 => f (pI q3.2 35 (3 * n + 1) q3.1) (nI (3 * n)) := by
  funext q3
  rw [nI_1, jchk_n0 (by omega) (by omega), nI_clamp (by omega)]
end RDM
