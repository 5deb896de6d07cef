/-! MORE OF WHAT THE REFERENCE READS -/
def dst (r c p q : Nat) : Nat := min (max (p / c) (q / c) - min (p / c) (q / c)) (r - (max (p / c) (q / c) - min (p / c) (q / c))) + min (max (p % c) (q % c) - min (p % c) (q % c)) (c - (max (p % c) (q % c) - min (p % c) (q % c)))
theorem c_dist {w : Wo} {B : Bd} (hB : B.ok) (hC : CB w 1 B) {p q : Nat} (hp : p < B.n) (hq : q < B.n) : F_X0_distance w (nI p) (nI q) = some (nI (dst B.r B.c p q)) := by
  obtain ⟨d, -, h1, h2⟩ := c_distance hB hC p hp q hq
  rw [h1, h2]
  rfl
theorem dst_lt {B : Bd} (hB : B.ok) : ∀ p, p < B.r * B.c → ∀ q, q < B.r * B.c → dst B.r B.c p q < 5 ∧ dst B.r B.c p q = dst B.r B.c q p :=
  dim4 (Q := fun r c => ∀ p, p < r * c → ∀ q, q < r * c → dst r c p q < 5 ∧ dst r c p q = dst r c q p) hB (by decide +kernel) (by decide +kernel) (by decide +kernel) (by decide +kernel)
section MRe
variable {w : Wo} {B : Bd}
theorem c_lacks_loop (hB : B.ok) (hC : CB w 1 B) : F_X0_isBeyondReach w = if lacks B = true then some 1 else B_X0_isBeyondReach_37 w := by
  have hd := dims hB
  unfold F_X0_isBeyondReach lacks
  generalize hm : fst1 (fun v => !decide (times B.goal B.n v ≤ times B.cell B.n v)) 12 = m
  have hle := fst1_le (fun v => !decide (times B.goal B.n v ≤ times B.cell B.n v)) 12
  rw [hm] at hle
  refine jl1_run (fun k => nI k) m (by rw [fu4]; omega) (fun k hk K => ?_) (fun K => ?_) rfl
  · have hn := fst1_no (fun v => !decide (times B.goal B.n v ≤ times B.cell B.n v)) 12 k (by rw [hm]; exact hk)
    have ht := times_le B.cell B.n k
    have ht2 := times_le B.goal B.n k
    unfold B_X0_isBeyondReach_2
    rw [L12, if_neg (nI_ge (by omega) (by omega)), c_count hB hC hC.2.2.2.1 (by omega), Option.bind_some, c_count hB hC hC.2.2.1 (by omega), Option.bind_some, itle (by omega) (by omega), if_pos (by simpa using hn), nI_succ]
  · have ht := times_le B.cell B.n m
    have ht2 := times_le B.goal B.n m
    unfold B_X0_isBeyondReach_2
    by_cases h : m < 12
    · have hy := fst1_yes (fun v => !decide (times B.goal B.n v ≤ times B.cell B.n v)) 12 (by rw [hm]; exact h)
      rw [hm] at hy
      rw [L12, if_neg (nI_ge h (by omega)), c_count hB hC hC.2.2.2.1 (by omega), Option.bind_some, c_count hB hC hC.2.2.1 (by omega), Option.bind_some, itle (by omega) (by omega), if_neg (by simpa using hy), if_pos]
      rw [Bool.not_eq_true', ← Bool.not_eq_true]
      intro e
      have := allb_iff.mp e m h
      simp at hy
      simp at this
      omega
    · rw [L12, if_pos (nI_le (by omega) (by omega)), if_neg]
      rw [Bool.not_eq_true, Bool.not_eq_false', allb_iff]
      intro k hk
      have hn := fst1_no (fun v => !decide (times B.goal B.n v ≤ times B.cell B.n v)) 12 k (by rw [hm]; omega)
      simpa using hn
end MRe
