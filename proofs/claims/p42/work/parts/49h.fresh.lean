/-! THE FRESH PUZZLE: its calls are all with numbers that are told: the functions are reckoned out by the kernel -/
def zAll (n : Nat) : Option Wo := (((((F_X0_lay N_X5 3 3).bind F_S_Z1).bind F_S_Z2).bind F_S_Z3).bind fun z => F_S_Z4 z (nI n)).bind F_S_Z5
set_option maxRecDepth 1000000 in
theorem z_all : ∀ n, n < 64 → (zAll n).isSome = true := by decide +kernel
