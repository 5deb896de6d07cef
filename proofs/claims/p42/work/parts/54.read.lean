/-! MORE OF IT -/
def isVow (v : Nat) : Bool := v == 0 || v == 4 || v == 8
def sgI (v : Nat) : Int32 := if v = 12 then nI 46 else nI (97 + v)
def lenB (B : Bd) (l : Nat) : Nat := if l < B.r then B.c else B.r
def vowOn (B : Bd) (l i : Nat) : Bool := isVow (B.cell (pl B.r B.c l i))
def vows (B : Bd) (l : Nat) : Nat := cnt (vowOn B l) (lenB B l)
def song (B : Bd) (l : Nat) : Bool := allb (fun i => !(vowOn B l i && vowOn B l (if i + 1 = lenB B l then 0 else i + 1))) (lenB B l) && decide (0 < vows B l)
theorem pl_lt {B : Bd} (h : B.ok) : ∀ l, l < B.r + B.c → ∀ i, i < (if l < B.r then B.c else B.r) → pl B.r B.c l i < B.r * B.c :=
  dim4 (Q := fun r c => ∀ l, l < r + c → ∀ i, i < (if l < r then c else r) → pl r c l i < r * c) h (by decide +kernel) (by decide +kernel) (by decide +kernel) (by decide +kernel)
theorem signOf_nI : ∀ v, v < 13 → F_X5_signOf (nI v) = sgI v := by decide +kernel
theorem isVowel_nI : ∀ v, v < 12 → F_X5_isVowel (sgI v) = bI (isVow v) := by decide +kernel
theorem lenB_le {B : Bd} (h : B.ok) (l : Nat) : 2 ≤ lenB B l ∧ lenB B l ≤ 3 := by
  have := dims h
  unfold lenB
  split <;> omega
section CRe
variable {w : Wo} {B : Bd}
theorem c_isVowelOn (hB : B.ok) (hC : CB w 1 B) {l i : Nat} (hl : l < B.r + B.c) (hi : i < lenB B l) : F_X0_isVowelOn w (nI l) (nI i) = bI (vowOn B l i) := by
  have hd := dims hB
  have hp := pl_lt hB l hl i hi
  have hp2 : pl B.r B.c l i < B.n := hp
  have hc := hB.2.2.1 _ hp2
  unfold F_X0_isVowelOn vowOn
  rw [c_placeOn hB hC (by omega), codeAt_nib (by omega), hC.2.2.1 _ hp2, signOf_nI _ (by omega), isVowel_nI _ hc]
theorem c_vowelsOn (hB : B.ok) (hC : CB w 1 B) {l : Nat} (hl : l < B.r + B.c) : F_X0_vowelsOn w (nI l) = some (nI (vows B l)) := by
  have hd := dims hB
  have hn := lenB_le hB l
  unfold F_X0_vowelsOn vows
  refine jl2_run (fun k => nI (cnt (vowOn B l) k)) (fun k => nI k) (lenB B l) (by rw [fu4]; omega) (fun k hk K => ?_) (fun K => ?_) rfl rfl
  · unfold B_X0_vowelsOn_4 B_X0_vowelsOn_25
    rw [c_lineLength hB hC (by omega), show (if l < B.r then B.c else B.r) = lenB B l from rfl, if_neg (nI_ge hk (by omega)), c_isVowelOn hB hC hl hk, itb0, nI_succ]
    by_cases h : vowOn B l k = true
    · rw [if_pos h, cnt_yes h, nI_succ]
    · rw [if_neg h, cnt_no h]
  · unfold B_X0_vowelsOn_4
    rw [c_lineLength hB hC (by omega), show (if l < B.r then B.c else B.r) = lenB B l from rfl, if_pos (nI_le (Nat.le_refl _) (by omega))]
theorem vows_le (B : Bd) (l : Nat) : vows B l ≤ lenB B l := cnt_le _ _
/-- sums -/
def sumN (f : Nat → Nat) : Nat → Nat
  | 0 => 0
  | n + 1 => sumN f n + f n
theorem c_vowels (hB : B.ok) (hC : CB w 1 B) : F_X0_vowels w = some (nI (sumN (vows B) B.r)) := by
  have hd := dims hB
  unfold F_X0_vowels
  refine jl2_run (fun k => nI (sumN (vows B) k)) (fun k => nI k) B.r (by rw [fu4]; omega) (fun k hk K => ?_) (fun K => ?_) rfl rfl
  · unfold B_X0_vowels_4
    rw [hC.1, if_neg (nI_ge hk (by omega)), c_vowelsOn hB hC (by omega), Option.bind_some, nI_add, nI_succ]
    rfl
  · unfold B_X0_vowels_4
    rw [hC.1, if_pos (nI_le (Nat.le_refl _) (by omega))]
theorem c_hasSong (hB : B.ok) (hC : CB w 1 B) {l : Nat} (hl : l < B.r + B.c) : F_X0_hasSong w (nI l) = some (bI (song B l)) := by
  have hd := dims hB
  have hn := lenB_le hB l
  have hv := vows_le B l
  unfold F_X0_hasSong B_X0_hasSong_8 song
  rw [c_lineLength hB hC (by omega), show (if l < B.r then B.c else B.r) = lenB B l from rfl, show nI (lenB B l) - 1 = nI (lenB B l - 1) from pk_sub (b := 1) (by omega)]
  generalize hm : fst1 (fun i => vowOn B l i && vowOn B l (if i + 1 = lenB B l then 0 else i + 1)) (lenB B l) = m
  have hle := fst1_le (fun i => vowOn B l i && vowOn B l (if i + 1 = lenB B l then 0 else i + 1)) (lenB B l)
  rw [hm] at hle
  refine jl1_run (fun k => nI k) m (by rw [fu4]; omega) (fun k hk K => ?_) (fun K => ?_) rfl
  · have hno := fst1_no (fun i => vowOn B l i && vowOn B l (if i + 1 = lenB B l then 0 else i + 1)) (lenB B l) k (by rw [hm]; exact hk)
    have hno : (vowOn B l k && vowOn B l (if k + 1 = lenB B l then 0 else k + 1)) = false := hno
    unfold B_X0_hasSong_10 B_X0_hasSong_38 B_X0_hasSong_46
    rw [if_neg (nI_nlt (by omega) (by omega)), c_isVowelOn hB hC hl (by omega), itb0, nI_succ]
    by_cases h1 : vowOn B l k = true
    · rw [if_pos h1, iteq (by omega) (by omega)]
      rw [h1, Bool.true_and] at hno
      by_cases h2 : k = lenB B l - 1
      · rw [if_pos h2]
        rw [if_pos (by omega)] at hno
        rw [L0, c_isVowelOn hB hC hl (by omega), hno]
        rfl
      · rw [if_neg h2]
        rw [if_neg (by omega)] at hno
        rw [show nI k + 1 = nI (k + 1) from (nI_succ k).symm, c_isVowelOn hB hC hl (by omega), hno]
        rfl
    · rw [if_neg h1]
  · unfold B_X0_hasSong_10
    by_cases h : m < lenB B l
    · have hy := fst1_yes (fun i => vowOn B l i && vowOn B l (if i + 1 = lenB B l then 0 else i + 1)) (lenB B l) (by rw [hm]; exact h)
      rw [hm] at hy
      have hy : (vowOn B l m && vowOn B l (if m + 1 = lenB B l then 0 else m + 1)) = true := hy
      have hall : allb (fun i => !(vowOn B l i && vowOn B l (if i + 1 = lenB B l then 0 else i + 1))) (lenB B l) = false := by
        rw [← Bool.not_eq_true]
        intro e
        have := allb_iff.mp e m h
        rw [hy] at this
        cases this
      rw [hall, Bool.false_and]
      rw [Bool.and_eq_true] at hy
      unfold B_X0_hasSong_38 B_X0_hasSong_46
      rw [if_neg (nI_nlt (by omega) (by omega)), c_isVowelOn hB hC hl (by omega), itb0, if_pos hy.1, iteq (by omega) (by omega)]
      by_cases h2 : m = lenB B l - 1
      · have hy2 := hy.2
        rw [if_pos (by omega)] at hy2
        rw [if_pos h2, L0, c_isVowelOn hB hC hl (by omega), hy2]
        rfl
      · have hy2 := hy.2
        rw [if_neg (by omega)] at hy2
        rw [if_neg h2, show nI m + 1 = nI (m + 1) from (nI_succ m).symm, c_isVowelOn hB hC hl (by omega), hy2]
        rfl
    · have hall : allb (fun i => !(vowOn B l i && vowOn B l (if i + 1 = lenB B l then 0 else i + 1))) (lenB B l) = true := by
        rw [allb_iff]
        intro k hk
        have hno := fst1_no (fun i => vowOn B l i && vowOn B l (if i + 1 = lenB B l then 0 else i + 1)) (lenB B l) k (by rw [hm]; omega)
        have hno : (vowOn B l k && vowOn B l (if k + 1 = lenB B l then 0 else k + 1)) = false := hno
        rw [hno]
        rfl
      rw [hall, Bool.true_and, if_pos (nI_lt (by omega) (by omega))]
      unfold B_X0_hasSong_52
      rw [c_vowelsOn hB hC hl, Option.bind_some, L0, itle (by omega) (by omega)]
      by_cases h0 : vows B l ≤ 0
      · rw [if_pos h0, decide_eq_false (by omega)]
        rfl
      · rw [if_neg h0, decide_eq_true (by omega)]
        rfl
theorem c_distance (hB : B.ok) (hC : CB w 1 B) : ∀ p, p < B.r * B.c → ∀ q, q < B.r * B.c → ∃ d, d < 5 ∧ F_X0_distance w (nI p) (nI q) = some (nI d) ∧ d = min (max (p / B.c) (q / B.c) - min (p / B.c) (q / B.c)) (B.r - (max (p / B.c) (q / B.c) - min (p / B.c) (q / B.c))) + min (max (p % B.c) (q % B.c) - min (p % B.c) (q % B.c)) (B.c - (max (p % B.c) (q % B.c) - min (p % B.c) (q % B.c))) := by
  have hd := dims hB
  intro p hp q hq
  have hp9 : p < B.n := hp
  have hq9 : q < B.n := hq
  have hj := dim4 (Q := fun r c => ∀ p, p < r * c → ∀ q, q < r * c → min (max (p / c) (q / c) - min (p / c) (q / c)) (r - (max (p / c) (q / c) - min (p / c) (q / c))) + min (max (p % c) (q % c) - min (p % c) (q % c)) (c - (max (p % c) (q % c) - min (p % c) (q % c))) < 5 ∧
    (jmin (jabs (nI (p / c) - nI (q / c))) (nI r - (jabs (nI (p / c) - nI (q / c))))) + (jmin (jabs (nI (p % c) - nI (q % c))) (nI c - (jabs (nI (p % c) - nI (q % c))))) = nI (min (max (p / c) (q / c) - min (p / c) (q / c)) (r - (max (p / c) (q / c) - min (p / c) (q / c))) + min (max (p % c) (q % c) - min (p % c) (q % c)) (c - (max (p % c) (q % c) - min (p % c) (q % c))))) hB (by decide +kernel) (by decide +kernel) (by decide +kernel) (by decide +kernel) p hp q hq
  refine ⟨_, hj.1, ?_, rfl⟩
  unfold F_X0_distance
  rw [c_rowOf hB hC (by omega), Option.bind_some, c_rowOf hB hC (by omega), Option.bind_some, c_columnOf hB hC (by omega), Option.bind_some, c_columnOf hB hC (by omega), Option.bind_some, hC.1, hC.2.1, hj.2]
end CRe
