/-! THE REFERENCE'S PARITY -/
section MPa
variable {w : Wo} {B : Bd}
theorem tB_iff (hB : B.ok) (hP : Par B) {p j : Nat} (hp : p < B.n) (hj : j < B.n) : B.cell j = Gf B p ↔ j = tB B p := by
  have h1 := tB_ok hB hP hp
  constructor
  · intro e
    exact un_inj hB hP.1 _ hj _ h1.1 (by rw [e, h1.2])
  · intro e
    rw [e, h1.2]
end MPa
/-! a turn and its way back -/
theorem c_back {w : Wo} {B : Bd} (hB : B.ok) (hC : CB w 1 B) : F_X0_areTurnsTakenBack w = some 1 := by
  have hd := dims hB
  have ho := opn_lt hB
  unfold F_X0_areTurnsTakenBack
  refine jl1_run (fun k => nI k) (Tn B) (by rw [fu4]; omega) (fun k hk K => ?_) (fun K => ?_) rfl
  · have hi : inv k < Tn B := (inv_lt hB k hk).1
    obtain ⟨a1, a2⟩ := c_tu hB hC (gL w 1 2) hk
    obtain ⟨b1, b2⟩ := c_tu hB hC (tuL B.r B.c (gL w 1 2) k) hi
    have e : tuL B.r B.c (tuL B.r B.c (gL w 1 2) k) (inv k) = gL w 1 2 := by
      refine i64_ext (fun q hq => ?_)
      rw [b2 q hq, bk_inv hB hk]
      by_cases h : q < B.n
      · have hg : goes B.r B.c q k < B.n := goes_lt hB k hk q h
        rw [if_pos h, a2 _ (by omega), (bk_goes hB hk h (by omega)).mpr rfl]
      · rw [if_neg h, a2 q hq]
        unfold bk
        rw [if_neg (by have : B.n = B.r * B.c := rfl; omega)]
    have ez : lg_cmp (gL w 1 2) (gL w 1 2) = 0 := by
      unfold lg_cmp
      simp
    unfold B_X0_areTurnsTakenBack_2
    rw [show F_X0_turns w = nI (Tn B) from c_turns hB hC, if_neg (nI_ge hk (by omega)), a1, Option.bind_some, xor1 k (by omega), b1, Option.bind_some, e, if_pos ez, nI_succ]
  · unfold B_X0_areTurnsTakenBack_2
    rw [show F_X0_turns w = nI (Tn B) from c_turns hB hC, if_pos (nI_le (Nat.le_refl _) (by omega))]
