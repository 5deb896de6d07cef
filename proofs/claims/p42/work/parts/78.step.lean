/-! A STEP -/
theorem ctP_le {ct : Nat} (h : ct ≤ 8) : ctP ct ≤ 8 := by
  unfold ctP
  split <;> omega
theorem hsP_ok {ct : Nat} {hs : Nat → Bd} {B : Bd} (hB : B.ok) (hok : ∀ i, i < ct → (hs i).ok) : ∀ i, i < ctP ct → (hsP ct hs B i).ok := by
  intro i hi
  unfold ctP at hi
  unfold hsP
  by_cases h8 : ct = 8
  · rw [if_pos h8] at hi ⊢
    show (if i = 7 then B else hs (i + 1)).ok
    by_cases h7 : i = 7
    · rw [if_pos h7]
      exact hB
    · rw [if_neg h7]
      exact hok _ (by omega)
  · rw [if_neg h8] at hi ⊢
    show (if i = ct then B else hs i).ok
    by_cases h7 : i = ct
    · rw [if_pos h7]
      exact hB
    · rw [if_neg h7]
      exact hok _ (by omega)
/-- the board behind a step -/
def stB (B : Bd) (t : Nat) : Bd := mkB B.r B.c (tn B t B.cell) B.goal B.bar (updC (handT B t).cn 5 ((handT B t).cn 5 + 1))
def prB (B : Bd) : Bd := mkB B.r B.c B.cell B.goal B.bar (updC B.cn 5 (B.cn 5 + 1))
theorem pr_st (B : Bd) (t : Nat) : handT (prB B) t = stB B t := by
  unfold handT stB
  have hg : gain (prB B) t = gain B t := rfl
  rw [hg]
  show mkB B.r B.c (tn B t B.cell) B.goal B.bar _ = _
  congr 1
  funext j
  by_cases h7 : j = 7
  · subst h7
    rfl
  · by_cases h2 : j = 2
    · subst h2
      rfl
    · by_cases h5 : j = 5
      · subst h5
        rfl
      · have e1 : updC (updC (prB B).cn 2 ((prB B).cn 2 + 1)) 7 ((prB B).cn 7 + bI (gain B t)) j = B.cn j := by
          unfold updC
          rw [if_neg h7, if_neg h2]
          exact if_neg h5
        have e2 : updC (handT B t).cn 5 ((handT B t).cn 5 + 1) j = B.cn j := by
          unfold updC
          rw [if_neg h5]
          show (if j = 7 then (B.cn 7 + bI (gain B t)) else if j = 2 then (B.cn 2 + 1) else B.cn j) = B.cn j
          rw [if_neg h7, if_neg h2]
        exact e1.trans e2.symm
