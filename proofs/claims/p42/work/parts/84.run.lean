/-! A TEXT CARRIED OUT -/
section RUN
variable {tl : Nat} {cn : Nat → Nat}
def CR (tl : Nat) (cn : Nat → Nat) (n : Nat) (w : Wo) : Prop := gI w 21 6 = nI n ∧ ∀ j, j < n → RW tl cn w j
def MR (tl : Nat) (cn : Nat → Nat) (n : Nat) (u : Wo) : Prop := ∀ j, j < n → TW tl cn u j
theorem CR.kd {n : Nat} {w w' : Wo} {D : List Nat} (h : CR tl cn n w) (k : Kd D w w') (h1 : 21 ∉ D) (h2 : 22 ∉ D) (h3 : 23 ∉ D) (h4 : 24 ∉ D) : CR tl cn n w' := ⟨(k 21 6 h1).1.trans h.1, fun j hj q hq => by rw [(k 22 j h2).1, (k 23 j h3).1, (k 24 j h4).1]; exact h.2 j hj q hq⟩
theorem MR.kf {n : Nat} {u u' : Wo} {D F : List Nat} (h : MR tl cn n u) (k : Kf D F u u') (h1 : 35 ∉ D) : MR tl cn n u' := fun j hj q hq => by
  have e : ∀ i, gI u' 35 i = gI u 35 i := fun i => k.1 35 i h1 (fun e => absurd e (by decide))
  rw [e, e, e]
  exact h j hj q hq
theorem c_kinds {w : Wo} {i : Nat} (h : i < 60) : F_X4_kindOf w (nI i) = some (gI w 22 i) ∧ F_X4_oneOf w (nI i) = some (gI w 23 i) ∧ F_X4_otherOf w (nI i) = some (gI w 24 i) := by
  unfold F_X4_kindOf F_X4_oneOf F_X4_otherOf
  rw [if_neg (nI_pos (by omega)), if_neg (nI_pos (by omega)), if_neg (nI_pos (by omega)), L60, if_neg (nI_ge h (by omega)), if_neg (nI_ge h (by omega)), if_neg (nI_ge h (by omega)), jchk_n0 h (by omega), jchk_n0 h (by omega), jchk_n0 h (by omega), nI_clamp (by omega)]
  exact ⟨rfl, rfl, rfl⟩
end RUN
