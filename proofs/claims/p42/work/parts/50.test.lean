/-! a test -/
set_option maxRecDepth 1000000 in
theorem tz0 : (F_X0_lay N_X5 3 3).isSome = true := by decide +kernel
theorem tz1 : ((F_X0_lay N_X5 3 3).bind fun z => F_X5_home z) = some 9 := by decide +kernel
theorem tz2 : ((F_X0_lay N_X5 3 3).bind fun z => (F_X5_isOut z)) = some 0 := by decide +kernel
