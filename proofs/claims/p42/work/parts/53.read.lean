/-! WHAT THE CLASS READS OFF ITS BOARD -/
def allb (q : Nat → Bool) : Nat → Bool
  | 0 => true
  | n + 1 => allb q n && q n
theorem allb_iff {q : Nat → Bool} : ∀ {n : Nat}, (allb q n = true ↔ ∀ k, k < n → q k = true)
  | 0 => ⟨fun _ k hk => absurd hk (Nat.not_lt_zero k), fun _ => rfl⟩
  | n + 1 => by
    have ih := @allb_iff q n
    rw [allb, Bool.and_eq_true, ih]
    constructor
    · rintro ⟨h1, h2⟩ k hk
      rcases Nat.lt_or_ge k n with h3 | h3
      · exact h1 k h3
      · rw [show k = n by omega]
        exact h2
    · intro h
      exact ⟨fun k hk => h k (by omega), h n (by omega)⟩
def homeq (B : Bd) (f : Nat → Nat) (p : Nat) : Bool := B.goal p == 12 || B.goal p == f p
def homes (B : Bd) (f : Nat → Nat) : Nat := cnt (homeq B f) B.n
def times (f : Nat → Nat) (n v : Nat) : Nat := cnt (fun p => f p == v) n
def unlike (B : Bd) : Nat := cnt (fun v => decide (0 < times B.cell B.n v)) 12
def lacks (B : Bd) : Bool := !allb (fun v => decide (times B.goal B.n v ≤ times B.cell B.n v)) 12
def same (B : Bd) : Bool := decide (unlike B = B.n) && allb (fun p => decide (times B.goal B.n (B.cell p) = 1)) B.n
theorem bI_t : bI true = 1 := rfl
theorem bI_f : bI false = 0 := rfl
theorem bI_ne0 (b : Bool) : (bI b = 0) = (b = false) := by cases b <;> simp [bI] <;> decide
theorem bI_eq1 (b : Bool) : (bI b = 1) = (b = true) := by cases b <;> simp [bI] <;> decide
theorem bI_or (b : Bool) : bI b = 0 ∨ bI b = 1 := by cases b <;> simp [bI] <;> decide
section CRd
variable {w : Wo} {B : Bd}
theorem c_count {x : Int64} {f : Nat → Nat} (hB : B.ok) (hC : CB w 1 B) (hf : ∀ p, p < B.n → nib x p = f p) {v : Nat} (hv : v < 16) : F_X0_count w x (nI v) = some (nI (times f B.n v)) := by
  have hd := dims hB
  unfold F_X0_count times
  refine jl2_run (fun k => nI (cnt (fun p => f p == v) k)) (fun k => nI k) B.n (by rw [fu4]; omega) (fun k hk K => ?_) (fun K => ?_) rfl rfl
  · have hl := nib_lt x k
    unfold B_X0_count_6 B_X0_count_28
    rw [c_places hB hC, if_neg (nI_ge hk (by omega)), codeAt_nib (by omega), iteq (by omega) (by omega), nI_succ, hf k hk]
    rw [hf k hk] at hl
    by_cases h : f k = v
    · rw [if_pos h, cnt_yes (by simp [h]), nI_succ]
    · rw [if_neg h, cnt_no (by simp [h])]
  · unfold B_X0_count_6
    rw [c_places hB hC, if_pos (nI_le (Nat.le_refl _) (by omega))]
theorem c_placeOf {x : Int64} {f : Nat → Nat} (hB : B.ok) (hC : CB w 1 B) (hf : ∀ p, p < B.n → nib x p = f p) {v : Nat} (hv : v < 16) : F_X0_placeOf w x (nI v) = some (if fst1 (fun p => f p == v) B.n < B.n then nI (fst1 (fun p => f p == v) B.n) else -1) := by
  have hd := dims hB
  unfold F_X0_placeOf
  generalize hm : fst1 (fun p => f p == v) B.n = m
  have hle := fst1_le (fun p => f p == v) B.n
  rw [hm] at hle
  refine jl1_run (fun k => nI k) m (by rw [fu4]; omega) (fun k hk K => ?_) (fun K => ?_) rfl
  · unfold B_X0_placeOf_3
    have hn := fst1_no (fun p => f p == v) B.n k (by rw [hm]; exact hk)
    have hl := nib_lt x k
    rw [c_places hB hC, if_neg (nI_ge (by omega) (by omega)), codeAt_nib (by omega), iteq (by omega) (by omega), nI_succ, hf k (by omega), if_neg (by simpa using hn)]
  · unfold B_X0_placeOf_3
    by_cases h : m < B.n
    · have hy := fst1_yes (fun p => f p == v) B.n (by rw [hm]; exact h)
      rw [hm] at hy
      have hl := nib_lt x m
      rw [if_pos h, c_places hB hC, if_neg (nI_ge h (by omega)), codeAt_nib (by omega), iteq (by omega) (by omega), hf m h, if_pos (by simpa using hy)]
    · rw [if_neg h, c_places hB hC, if_pos (nI_le (by omega) (by omega))]
theorem c_atHome {x : Int64} {f : Nat → Nat} (hB : B.ok) (hC : CB w 1 B) (hf : ∀ p, p < B.n → nib x p = f p) : F_X0_atHome w x = some (nI (homes B f)) := by
  have hd := dims hB
  unfold F_X0_atHome homes
  refine jl2_run (fun k => nI (cnt (homeq B f) k)) (fun k => nI k) B.n (by rw [fu4]; omega) (fun k hk K => ?_) (fun K => ?_) rfl rfl
  · have hl := nib_lt x k
    have hg := nib_lt (gL w 1 3) k
    unfold B_X0_atHome_5 B_X0_atHome_43 B_X0_atHome_46
    rw [c_places hB hC, if_neg (nI_ge hk (by omega)), codeAt_nib (by omega), codeAt_nib (by omega), L12, iteq (by omega) (by omega), iteq (by omega) (by omega), nI_succ, hf k hk, hC.2.2.2.1 k hk]
    by_cases h1 : B.goal k = 12
    · rw [if_pos h1, cnt_yes (by simp [homeq, h1]), nI_succ]
    · rw [if_neg h1]
      by_cases h2 : B.goal k = f k
      · rw [if_pos h2, cnt_yes (by simp [homeq, h2]), nI_succ]
      · rw [if_neg h2, cnt_no (by simp [homeq, h1, h2])]
  · unfold B_X0_atHome_5
    rw [c_places hB hC, if_pos (nI_le (Nat.le_refl _) (by omega))]
theorem c_isGoal {x : Int64} {f : Nat → Nat} (hB : B.ok) (hC : CB w 1 B) (hf : ∀ p, p < B.n → nib x p = f p) : F_X0_isGoal w x = some (bI (decide (homes B f = B.n))) := by
  have hd := dims hB
  unfold F_X0_isGoal homes
  generalize hm : fst1 (fun p => !homeq B f p) B.n = m
  have hle := fst1_le (fun p => !homeq B f p) B.n
  rw [hm] at hle
  refine jl1_run (fun k => nI k) m (by rw [fu4]; omega) (fun k hk K => ?_) (fun K => ?_) rfl
  · unfold B_X0_isGoal_2 B_X0_isGoal_39
    have hn := fst1_no (fun p => !homeq B f p) B.n k (by rw [hm]; exact hk)
    have hl := nib_lt x k
    have hg := nib_lt (gL w 1 3) k
    rw [c_places hB hC, if_neg (nI_ge (by omega) (by omega)), codeAt_nib (by omega), codeAt_nib (by omega), L12, iteq (by omega) (by omega), iteq (by omega) (by omega), nI_succ, hf k (by omega), hC.2.2.2.1 k (by omega)]
    have hn2 : B.goal k = 12 ∨ B.goal k = f k := by
      have h9 : ¬ B.goal k = 12 → B.goal k = f k := by simpa [homeq] using hn
      by_cases e : B.goal k = 12
      · exact Or.inl e
      · exact Or.inr (h9 e)
    by_cases h1 : B.goal k = 12
    · rw [if_pos h1]
    · rw [if_neg h1, if_pos (hn2.resolve_left h1)]
  · unfold B_X0_isGoal_2
    by_cases h : m < B.n
    · have hy := fst1_yes (fun p => !homeq B f p) B.n (by rw [hm]; exact h)
      rw [hm] at hy
      have hl := nib_lt x m
      have hg := nib_lt (gL w 1 3) m
      have hy2 : ¬ B.goal m = 12 ∧ ¬ B.goal m = f m := by simpa [homeq] using hy
      rw [c_places hB hC, if_neg (nI_ge h (by omega)), codeAt_nib (by omega), codeAt_nib (by omega), L12, iteq (by omega) (by omega), iteq (by omega) (by omega), hf m h, hC.2.2.2.1 m h, if_neg hy2.1, if_neg hy2.2]
      rw [decide_eq_false]
      · rfl
      · intro e
        have := cnt_full.mp e m h
        simp [homeq, hy2] at this
    · rw [c_places hB hC, if_pos (nI_le (by omega) (by omega)), decide_eq_true]
      · rfl
      · rw [cnt_full]
        intro k hk
        have := fst1_no (fun p => !homeq B f p) B.n k (by rw [hm]; omega)
        simpa using this
theorem times_le (f : Nat → Nat) (n v : Nat) : times f n v ≤ n := cnt_le _ _
theorem c_unlike (hB : B.ok) (hC : CB w 1 B) : F_X0_unlikeLetters w = some (nI (unlike B)) := by
  have hd := dims hB
  unfold F_X0_unlikeLetters unlike
  refine jl2_run (fun k => nI (cnt (fun v => decide (0 < times B.cell B.n v)) k)) (fun k => nI k) 12 (by rw [fu4]; omega) (fun k hk K => ?_) (fun K => ?_) rfl rfl
  · unfold B_X0_unlikeLetters_4 B_X0_unlikeLetters_25
    have ht := times_le B.cell B.n k
    rw [L12, if_neg (nI_ge hk (by omega)), c_count hB hC hC.2.2.1 (by omega), Option.bind_some, nI_succ, L0, itle (by omega) (by omega)]
    by_cases h : times B.cell B.n k ≤ 0
    · rw [if_pos h, cnt_no (by simp; omega)]
    · rw [if_neg h, cnt_yes (by simp; omega), nI_succ]
  · unfold B_X0_unlikeLetters_4
    rw [L12, if_pos (nI_le (Nat.le_refl _) (by omega))]
theorem unlike_le (B : Bd) : unlike B ≤ 12 := cnt_le _ _
theorem c_allUnlike (hB : B.ok) (hC : CB w 1 B) : F_X0_areAllUnlike w = some (bI (decide (unlike B = B.n))) := by
  have hd := dims hB
  have hu := unlike_le B
  unfold F_X0_areAllUnlike
  rw [c_unlike hB hC, Option.bind_some, c_places hB hC, iteq (by omega) (by omega)]
  by_cases h : unlike B = B.n
  · rw [if_pos h, decide_eq_true h]
    rfl
  · rw [if_neg h, decide_eq_false h]
    rfl
theorem c_same (hB : B.ok) (hC : CB w 1 B) : F_X0_hasSameLetters w = some (bI (same B)) := by
  have hd := dims hB
  unfold F_X0_hasSameLetters same
  rw [c_allUnlike hB hC, Option.bind_some]
  refine jl2_run (fun k => bI (decide (unlike B = B.n) && allb (fun p => decide (times B.goal B.n (B.cell p) = 1)) k)) (fun k => nI k) B.n (by rw [fu4]; omega) (fun k hk K => ?_) (fun K => ?_) (by simp [allb]) rfl
  · unfold B_X0_hasSameLetters_7 B_X0_hasSameLetters_43 B_X0_hasSameLetters_44
    have ht := times_le B.goal B.n (B.cell k)
    have hc := hB.2.2.1 k hk
    rw [c_places hB hC, if_neg (nI_ge hk (by omega)), codeAt_nib (by omega), hC.2.2.1 k hk, c_count hB hC hC.2.2.2.1 (by omega), Option.bind_some, nI_succ, itb0, L1, iteq (by omega) (by omega), allb, ← Bool.and_assoc]
    generalize (decide (unlike B = B.n) && allb (fun p => decide (times B.goal B.n (B.cell p) = 1)) k) = z
    cases z with
    | false => rfl
    | true =>
      rw [if_pos rfl, Bool.true_and]
      by_cases h1 : times B.goal B.n (B.cell k) = 1
      · rw [if_pos h1, decide_eq_true h1]
        rfl
      · rw [if_neg h1, decide_eq_false h1]
        rfl
  · unfold B_X0_hasSameLetters_7
    rw [c_places hB hC, if_pos (nI_le (Nat.le_refl _) (by omega)), jchk_pos (bI_or _)]
end CRd
