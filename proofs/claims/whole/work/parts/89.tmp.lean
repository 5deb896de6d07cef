theorem K_29 {w : Wo} (hI : Inv w) (x1 x2 x3 : Int32) : ∃ w', F_K_29 w x1 x2 x3 = some w' ∧ Inv w' := by
  sorry
