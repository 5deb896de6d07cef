/-! MORE OF WHAT THE REFERENCE READS -/
theorem misVowel_nI : ∀ v, v < 12 → F_X6_isVowel (nI v) = bI (isVow v) := by decide +kernel
theorem msignOf_nI : ∀ v, v < 13 → F_X6_signOf (gv v) = sgI v := by decide +kernel
def dst (r c p q : Nat) : Nat := min (max (p / c) (q / c) - min (p / c) (q / c)) (r - (max (p / c) (q / c) - min (p / c) (q / c))) + min (max (p % c) (q % c) - min (p % c) (q % c)) (c - (max (p % c) (q % c) - min (p % c) (q % c)))
theorem c_dist {w : Wo} {B : Bd} (hB : B.ok) (hC : CB w 1 B) {p q : Nat} (hp : p < B.n) (hq : q < B.n) : F_X0_distance w (nI p) (nI q) = some (nI (dst B.r B.c p q)) := by
  obtain ⟨d, -, h1, h2⟩ := c_distance hB hC p hp q hq
  rw [h1, h2]
  rfl
theorem dst_lt {B : Bd} (hB : B.ok) : ∀ p, p < B.r * B.c → ∀ q, q < B.r * B.c → dst B.r B.c p q < 5 ∧ dst B.r B.c p q = dst B.r B.c q p :=
  dim4 (Q := fun r c => ∀ p, p < r * c → ∀ q, q < r * c → dst r c p q < 5 ∧ dst r c p q = dst r c q p) hB (by decide +kernel) (by decide +kernel) (by decide +kernel) (by decide +kernel)
section MRe
variable {w : Wo} {B : Bd}
theorem m_unlike (hB : B.ok) (hM : MB w 27 0 B) : F_X6_unlike w = some (nI (unlike B)) := by
  have hd := dims hB
  unfold F_X6_unlike unlike
  refine jl2_run (fun k => nI (cnt (fun v => decide (0 < times B.cell B.n v)) k)) (fun k => nI k) 12 (by rw [fu4]; omega) (fun k hk K => ?_) (fun K => ?_) rfl rfl
  · unfold B_X6_unlike_4 B_X6_unlike_26
    have ht := times_le B.cell B.n k
    rw [L12, if_neg (nI_ge hk (by omega)), m_tcell hB hM hk, Option.bind_some, nI_succ, L0, itle (by omega) (by omega)]
    by_cases h : times B.cell B.n k ≤ 0
    · rw [if_pos h, cnt_no (by simp; omega), ofs]
      rfl
    · rw [if_neg h, cnt_yes (by simp; omega), nI_succ]
  · unfold B_X6_unlike_4
    rw [L12, if_pos (nI_le (Nat.le_refl _) (by omega))]
theorem m_lacks (hB : B.ok) (hM : MB w 27 0 B) : F_X6_lacksLetters w = some (bI (lacks B)) := by
  have hd := dims hB
  unfold F_X6_lacksLetters lacks
  refine jl2_run (fun k => bI (!allb (fun v => decide (times B.goal B.n v ≤ times B.cell B.n v)) k)) (fun k => nI k) 12 (by rw [fu4]; omega) (fun k hk K => ?_) (fun K => ?_) rfl rfl
  · unfold B_X6_lacksLetters_4 B_X6_lacksLetters_31 B_X6_lacksLetters_36
    have ht := times_le B.cell B.n k
    have ht2 := times_le B.goal B.n k
    rw [L12, if_neg (nI_ge hk (by omega)), itb0, nI_succ, allb]
    by_cases h : allb (fun v => decide (times B.goal B.n v ≤ times B.cell B.n v)) k = true
    · rw [h, if_neg (by decide), m_tgoal hB hM hk, Option.bind_some, m_tcell hB hM hk, Option.bind_some, itle (by omega) (by omega)]
      by_cases h2 : times B.goal B.n k ≤ times B.cell B.n k
      · rw [if_pos h2, decide_eq_true h2]
        rfl
      · rw [if_neg h2, decide_eq_false h2]
        rfl
    · rw [Bool.not_eq_true] at h
      rw [h, if_pos (by decide)]
      rfl
  · unfold B_X6_lacksLetters_4
    rw [L12, if_pos (nI_le (Nat.le_refl _) (by omega)), jchk_pos (bI_or _)]
theorem c_lacks_loop (hB : B.ok) (hC : CB w 1 B) : F_X0_isBeyondReach w = if lacks B = true then some 1 else B_X0_isBeyondReach_37 w := by
  have hd := dims hB
  unfold F_X0_isBeyondReach lacks
  generalize hm : fst1 (fun v => !decide (times B.goal B.n v ≤ times B.cell B.n v)) 12 = m
  have hle := fst1_le (fun v => !decide (times B.goal B.n v ≤ times B.cell B.n v)) 12
  rw [hm] at hle
  refine jl1_run (fun k => nI k) m (by rw [fu4]; omega) (fun k hk K => ?_) (fun K => ?_) rfl
  · have hn := fst1_no (fun v => !decide (times B.goal B.n v ≤ times B.cell B.n v)) 12 k (by rw [hm]; exact hk)
    have ht := times_le B.cell B.n k
    have ht2 := times_le B.goal B.n k
    unfold B_X0_isBeyondReach_2
    rw [L12, if_neg (nI_ge (by omega) (by omega)), c_count hB hC hC.2.2.2.1 (by omega), Option.bind_some, c_count hB hC hC.2.2.1 (by omega), Option.bind_some, itle (by omega) (by omega), if_pos (by simpa using hn), nI_succ]
  · have ht := times_le B.cell B.n m
    have ht2 := times_le B.goal B.n m
    unfold B_X0_isBeyondReach_2
    by_cases h : m < 12
    · have hy := fst1_yes (fun v => !decide (times B.goal B.n v ≤ times B.cell B.n v)) 12 (by rw [hm]; exact h)
      rw [hm] at hy
      rw [L12, if_neg (nI_ge h (by omega)), c_count hB hC hC.2.2.2.1 (by omega), Option.bind_some, c_count hB hC hC.2.2.1 (by omega), Option.bind_some, itle (by omega) (by omega), if_neg (by simpa using hy), if_pos]
      rw [Bool.not_eq_true', ← Bool.not_eq_true]
      intro e
      have := allb_iff.mp e m h
      simp at hy
      simp at this
      omega
    · rw [L12, if_pos (nI_le (by omega) (by omega)), if_neg]
      rw [Bool.not_eq_true, Bool.not_eq_false', allb_iff]
      intro k hk
      have hn := fst1_no (fun v => !decide (times B.goal B.n v ≤ times B.cell B.n v)) 12 k (by rw [hm]; omega)
      simpa using hn
theorem m_barred (hB : B.ok) (hM : MB w 27 0 B) : F_X6_barredLines w = some (nI (cnt B.bar 6)) := by
  have hd := dims hB
  have h6 : ∀ m, B.r + B.c ≤ m → cnt B.bar m = cnt B.bar (B.r + B.c) := by
    intro m hm
    obtain ⟨d, rfl⟩ : ∃ d, m = B.r + B.c + d := ⟨m - (B.r + B.c), by omega⟩
    clear hm
    induction d with
    | zero => rfl
    | succ d ih =>
      rw [show B.r + B.c + (d + 1) = (B.r + B.c + d) + 1 by omega, cnt_no (by rw [hB.2.2.2.2 _ (by omega)]; decide), ih]
  rw [h6 6 (by omega)]
  unfold F_X6_barredLines
  refine jl2_run (fun k => nI (cnt B.bar k)) (fun k => nI k) (B.r + B.c) (by rw [fu4]; omega) (fun k hk K => ?_) (fun K => ?_) rfl rfl
  · unfold B_X6_barredLines_4 B_X6_barredLines_24
    have hb := hM.2.2.2.2.1 k (by omega)
    rw [Nat.zero_add] at hb
    rw [m_lines hM, Option.bind_some, if_neg (nI_ge hk (by omega)), L8, ofs, L0, jchk_nI (by omega) (by omega), nI_clamp (by omega), hb, nI_succ]
    by_cases h : B.bar k = true
    · rw [cnt_yes h, h, nI_succ]
      rfl
    · rw [cnt_no h]
      rw [Bool.not_eq_true] at h
      rw [h, bI, if_neg (by decide), ofs]
      rfl
  · unfold B_X6_barredLines_4
    rw [m_lines hM, Option.bind_some, if_pos (nI_le (Nat.le_refl _) (by omega))]
theorem m_steps (hB : B.ok) (hM : MB w 27 0 B) {p q : Nat} (hp : p < B.n) (hq : q < B.n) : F_X6_stepsBetween w (nI p) (nI q) (nI B.c) = some (nI (dst B.r B.c p q)) := by
  have hd := dims hB
  unfold F_X6_stepsBetween
  have hc : ¬ nI B.c = 0 := nI_ne0 (by omega) (by omega)
  rw [jchk_pos hc, jchk_pos hc, jchk_pos hc, jchk_pos hc, hM.1]
  exact dim4 (Q := fun r c => ∀ p, p < r * c → ∀ q, q < r * c → some (((F_X6_round (nI p / nI c) (nI q / nI c) (nI r)) + (F_X6_round (jrem (nI p) (nI c)) (jrem (nI q) (nI c)) (nI c)))) = some (nI (dst r c p q))) hB (by decide +kernel) (by decide +kernel) (by decide +kernel) (by decide +kernel) p hp q hq
theorem m_lengthOf (hB : B.ok) (hM : MB w 27 0 B) {l : Nat} (hl : l < 6) : F_X6_lengthOf w (nI l) = some (nI (lenB B l)) := by
  have hd := dims hB
  unfold F_X6_lengthOf lenB
  rw [hM.1, hM.2.1]
  by_cases h : l < B.r
  · rw [if_neg (nI_ge h (by omega)), if_pos h]
  · rw [if_pos (nI_le (by omega) (by omega)), if_neg h]
theorem m_placeOn (hB : B.ok) (hM : MB w 27 0 B) {l i : Nat} (hl : l < 6) : F_X6_placeOn w (nI l) (nI i) = some (nI (pl B.r B.c l i)) := by
  have hd := dims hB
  unfold F_X6_placeOn pl
  rw [hM.1, hM.2.1, pk_mul, pk_mul, ofs, ofs]
  by_cases h : l < B.r
  · rw [if_neg (nI_ge h (by omega)), if_pos h, Nat.mul_comm]
  · rw [if_pos (nI_le (by omega) (by omega)), if_neg h, pk_sub (by omega)]
    congr 2
    rw [Nat.mul_comm i]
    omega
theorem m_isVowelOn (hB : B.ok) (hM : MB w 27 0 B) {l i : Nat} (hl : l < B.r + B.c) (hi : i < 4) : F_X6_isVowelOn w (nI l) (nI i) = some (bI (vowOn B l (i % lenB B l))) := by
  have hd := dims hB
  have hn := lenB_le hB l
  have hm : i % lenB B l < lenB B l := Nat.mod_lt _ (by omega)
  have hp := pl_lt hB l hl _ hm
  have hp2 : pl B.r B.c l (i % lenB B l) < B.n := hp
  have hcell := hM.2.2.1 _ hp2
  rw [Nat.zero_add] at hcell
  unfold F_X6_isVowelOn vowOn
  rw [m_lengthOf hB hM (by omega), Option.bind_some, jchk_pos (nI_ne0 (by omega) (by omega)), jrem_nI (by omega) (by omega) (by omega), m_placeOn hB hM (by omega), Option.bind_some, L14, ofs, L0, jchk_nI (by omega) (by omega), nI_clamp (by omega), hcell, misVowel_nI _ (hB.2.2.1 _ hp2)]
theorem m_vowels (hB : B.ok) (hM : MB w 27 0 B) {l : Nat} (hl : l < B.r + B.c) : F_X6_vowels w (nI l) = some (nI (vows B l)) := by
  have hd := dims hB
  have hn := lenB_le hB l
  unfold F_X6_vowels vows
  refine jl2_run (fun k => nI (cnt (vowOn B l) k)) (fun k => nI k) (lenB B l) (by rw [fu4]; omega) (fun k hk K => ?_) (fun K => ?_) rfl rfl
  · unfold B_X6_vowels_4 B_X6_vowels_28
    rw [m_lengthOf hB hM (by omega), Option.bind_some, if_neg (nI_ge hk (by omega)), m_isVowelOn hB hM hl (by omega), Option.bind_some, itb0, nI_succ, Nat.mod_eq_of_lt hk]
    by_cases h : vowOn B l k = true
    · rw [if_pos h, cnt_yes h, nI_succ]
    · rw [if_neg h, cnt_no h, L0, ofs]
      rfl
  · unfold B_X6_vowels_4
    rw [m_lengthOf hB hM (by omega), Option.bind_some, if_pos (nI_le (Nat.le_refl _) (by omega))]
theorem m_isSinging (hB : B.ok) (hM : MB w 27 0 B) {l : Nat} (hl : l < B.r + B.c) : F_X6_isSinging w (nI l) = some (bI (song B l)) := by
  have hd := dims hB
  have hn := lenB_le hB l
  have hv := vows_le B l
  have key : ∀ b : Bool, B_X6_isSinging_13 w (nI l) (bI b) = some (bI (b && allb (fun i => !(vowOn B l i && vowOn B l (if i + 1 = lenB B l then 0 else i + 1))) (lenB B l))) := by
    intro b
    unfold B_X6_isSinging_13
    refine jl2_run (fun k => bI (b && allb (fun i => !(vowOn B l i && vowOn B l (if i + 1 = lenB B l then 0 else i + 1))) k)) (fun k => nI k) (lenB B l) (by rw [fu4]; omega) (fun k hk K => ?_) (fun K => ?_) (by simp [allb]) rfl
    · unfold B_X6_isSinging_16 B_X6_isSinging_49 B_X6_isSinging_53 B_X6_isSinging_54
      have e1 : (k + 1) % lenB B l = if k + 1 = lenB B l then 0 else k + 1 := by
        by_cases h : k + 1 = lenB B l
        · rw [if_pos h, h, Nat.mod_self]
        · rw [if_neg h, Nat.mod_eq_of_lt (by omega)]
      rw [m_lengthOf hB hM (by omega), Option.bind_some, if_neg (nI_ge hk (by omega)), itb0, nI_succ, allb, ← Bool.and_assoc]
      generalize (b && allb (fun i => !(vowOn B l i && vowOn B l (if i + 1 = lenB B l then 0 else i + 1))) k) = z
      cases z with
      | false => rfl
      | true =>
        rw [if_pos rfl, m_isVowelOn hB hM hl (by omega), Option.bind_some, itb0, Nat.mod_eq_of_lt hk]
        by_cases h : vowOn B l k = true
        · rw [if_pos h, show nI k + 1 = nI (k + 1) from (nI_succ k).symm, m_isVowelOn hB hM hl (by omega), Option.bind_some, itb0, e1, h]
          generalize vowOn B l (if k + 1 = lenB B l then 0 else k + 1) = y
          cases y <;> rfl
        · rw [if_neg h]
          rw [Bool.not_eq_true] at h
          rw [h]
          rfl
    · unfold B_X6_isSinging_16
      rw [m_lengthOf hB hM (by omega), Option.bind_some, if_pos (nI_le (Nat.le_refl _) (by omega)), jchk_pos (bI_or _)]
  unfold F_X6_isSinging song
  rw [m_vowels hB hM hl, Option.bind_some, L0, itle (by omega) (by omega)]
  by_cases h0 : vows B l ≤ 0
  · rw [if_pos h0, decide_eq_false (by omega), Bool.and_false, ← L0]
    have := key false
    rw [Bool.false_and] at this
    exact this
  · rw [if_neg h0, decide_eq_true (by omega), Bool.and_true]
    have := key true
    rw [Bool.true_and] at this
    exact this
end MRe
