/-! MEANFAR, RANKED -/
theorem it1 {α : Type} {x y : α} {a : Nat} (ha : a < 2 ^ 31) : (if nI a = 1 then x else y) = if a = 1 then x else y := iteq (b := 1) ha (by decide)
theorem cnt_one {q : Nat → Bool} : ∀ {n : Nat}, cnt q n = 1 → ∀ {i j : Nat}, i < n → j < n → q i = true → q j = true → i = j
  | 0, _, i, _, hi, _, _, _ => absurd hi (Nat.not_lt_zero i)
  | n + 1, h, i, j, hi, hj, qi, qj => by
    by_cases hn : q n = true
    · rw [cnt_yes hn] at h
      have h0 : cnt q n = 0 := by omega
      have hz : ∀ k, k < n → ¬ q k = true := fun k hk hq => by
        have := cnt_pos.mpr ⟨k, hk, hq⟩
        omega
      have e1 : i = n := by
        rcases Nat.lt_or_ge i n with h1 | h1
        · exact absurd qi (hz i h1)
        · omega
      have e2 : j = n := by
        rcases Nat.lt_or_ge j n with h1 | h1
        · exact absurd qj (hz j h1)
        · omega
      omega
    · rw [cnt_no hn] at h
      have e1 : i ≠ n := fun e => hn (by rw [← e]; exact qi)
      have e2 : j ≠ n := fun e => hn (by rw [← e]; exact qj)
      exact cnt_one h (by omega) (by omega) qi qj
theorem cnt_disj {a b : Nat → Bool} (h : ∀ k, ¬ (a k = true ∧ b k = true)) : ∀ n, cnt (fun k => a k || b k) n = cnt a n + cnt b n
  | 0 => rfl
  | n + 1 => by
    have ih := cnt_disj h n
    have hn := h n
    unfold cnt
    rw [ih]
    cases ha : a n <;> cases hb : b n
    · rfl
    · simp
      omega
    · simp
      omega
    · exact absurd ⟨ha, hb⟩ hn
theorem cnt_cut {q : Nat → Bool} {k : Nat} : ∀ {n : Nat}, k ≤ n → cnt (fun o => q o && decide (o < k)) n = cnt q k
  | 0, h => by rw [show k = 0 by omega]; rfl
  | n + 1, h => by
    rcases Nat.lt_or_ge n k with h1 | h1
    · rw [show k = n + 1 by omega]
      exact cnt_congr (fun o ho => by rw [decide_eq_true ho, Bool.and_true])
    · rw [cnt_no (by rw [decide_eq_false (by omega), Bool.and_false]; decide), cnt_cut h1]
theorem times_12 {B : Bd} (hB : B.ok) : times B.cell B.n 12 = 0 := by
  rcases Nat.eq_zero_or_pos (times B.cell B.n 12) with h | h
  · exact h
  · obtain ⟨k, hk, hq⟩ := cnt_pos.mp h
    have := hB.2.2.1 k hk
    simp at hq
    omega
def mq (B : Bd) (p : Nat) : Bool := decide (times B.cell B.n (B.goal p) = 1)
def mhome (B : Bd) (p : Nat) : Nat := fst1 (fun q => B.cell q == B.goal p) B.n
def md (B : Bd) (p : Nat) : Nat := if mq B p then dst B.r B.c p (mhome B p) else 0
theorem mhome_lt {B : Bd} {p : Nat} (h : mq B p = true) : mhome B p < B.n := by
  have h1 : times B.cell B.n (B.goal p) = 1 := of_decide_eq_true h
  have h2 : 0 < cnt (fun q => B.cell q == B.goal p) B.n := by
    unfold times at h1
    omega
  obtain ⟨k, hk, hq⟩ := cnt_pos.mp h2
  have h3 := fst1_le (fun q => B.cell q == B.goal p) B.n
  rcases Nat.lt_or_ge (fst1 (fun q => B.cell q == B.goal p) B.n) B.n with h4 | h4
  · exact h4
  · have := fst1_no (fun q => B.cell q == B.goal p) B.n k (by omega)
    rw [hq] at this
    cases this
theorem md_le {B : Bd} (hB : B.ok) {p : Nat} (hp : p < B.n) : md B p ≤ 4 := by
  unfold md
  by_cases h : mq B p = true
  · rw [if_pos h]
    have := (dst_lt hB p hp _ (mhome_lt h)).1
    omega
  · rw [if_neg h]
    omega
theorem smd_le {B : Bd} (hB : B.ok) : ∀ k, k ≤ B.n → sumN (md B) k ≤ 4 * k
  | 0, _ => Nat.le_refl 0
  | k + 1, h => by
    have h1 := smd_le hB k (by omega)
    have h2 := md_le hB (p := k) (by omega)
    unfold sumN
    omega
theorem c_meanFar {w : Wo} {B : Bd} (hB : B.ok) (hC : CB w 1 B) : F_X5_meanFar w = B_X5_meanFar_86 w (nI (cnt (mq B) B.n)) (nI (sumN (md B) B.n)) := by
  have hd := dims hB
  unfold F_X5_meanFar
  refine jl3_run (fun k => nI (cnt (mq B) k)) (fun k => nI (sumN (md B) k)) (fun k => nI k) B.n (by rw [fu4]; omega) (fun k hk K => ?_) (fun K => ?_) rfl rfl rfl
  · have hg := hB.2.2.2.1 k hk
    have ht := times_le B.cell B.n (B.goal k)
    unfold B_X5_meanFar_6 B_X5_meanFar_80
    rw [c_places hB hC, if_neg (nI_ge hk (by omega)), codeAt_nib (by omega), hC.2.2.2.1 k hk, c_count hB hC hC.2.2.1 (by omega), Option.bind_some, L1, iteq (by omega) (by omega)]
    by_cases h : times B.cell B.n (B.goal k) = 1
    · have hq : mq B k = true := decide_eq_true h
      have hl := mhome_lt hq
      have e : F_X0_placeOf w (gL w 1 2) (nI (B.goal k)) = some (nI (mhome B k)) := by
        rw [c_placeOf hB hC hC.2.2.1 (by omega)]
        exact congrArg some (if_pos hl)
      rw [if_pos h, e, Option.bind_some, c_dist hB hC hk hl, Option.bind_some, ofs, ofs, ofs, cnt_yes hq]
      show _ = K _ (nI (sumN (md B) k + md B k)) _
      rw [show md B k = dst B.r B.c k (mhome B k) by unfold md; rw [if_pos hq]]
    · have hq : ¬ mq B k = true := fun e => h (of_decide_eq_true e)
      rw [if_neg h, ofs, cnt_no hq]
      show _ = K _ (nI (sumN (md B) k + md B k)) _
      rw [show md B k = 0 by unfold md; rw [if_neg hq], Nat.add_zero]
      rfl
  · unfold B_X5_meanFar_6
    rw [c_places hB hC, if_pos (nI_le (Nat.le_refl _) (by omega))]
def lsf (B : Bd) (p : Nat) : Nat → Int32
  | 0 => -1
  | k + 1 => if B.goal p ≠ 12 ∧ B.cell k = B.goal p then nI (dst B.r B.c k p) else lsf B p k
theorem lsf_one {B : Bd} {p : Nat} (hq : mq B p = true) (h12 : B.goal p ≠ 12) : ∀ k, k ≤ B.n → mhome B p < k → lsf B p k = nI (dst B.r B.c (mhome B p) p)
  | 0, _, h => absurd h (Nat.not_lt_zero _)
  | k + 1, hk, h => by
    have hl := mhome_lt hq
    have hy : (B.cell (mhome B p) == B.goal p) = true := fst1_yes (fun q => B.cell q == B.goal p) B.n hl
    have h1 : cnt (fun q => B.cell q == B.goal p) B.n = 1 := of_decide_eq_true hq
    unfold lsf
    by_cases e : B.cell k = B.goal p
    · have : k = mhome B p := cnt_one h1 (by omega) hl (by simpa using e) hy
      rw [if_pos ⟨h12, e⟩, this]
    · rw [if_neg (fun q => e q.2)]
      have hne : mhome B p ≠ k := fun q => e (by rw [← q]; simpa using hy)
      exact lsf_one hq h12 k (by omega) (by omega)
/-! lines by their vowels -/
def bfr (B : Bd) (o l : Nat) : Bool := decide (vows B l < vows B o) || (decide (vows B o = vows B l) && decide (o < l))
def rank (B : Bd) (l : Nat) : Nat := cnt (fun o => bfr B o l) (B.r + B.c)
theorem cnt_mono {a b : Nat → Bool} (h : ∀ k, a k = true → b k = true) : ∀ n, cnt a n ≤ cnt b n
  | 0 => Nat.le_refl 0
  | n + 1 => by
    have ih := cnt_mono h n
    unfold cnt
    have hn := h n
    cases ha : a n
    · simp
      omega
    · rw [hn ha]
      simp
      omega
theorem cnt_lt {a b : Nat → Bool} (h : ∀ k, a k = true → b k = true) {i : Nat} (h1 : a i = false) (h2 : b i = true) : ∀ n, i < n → cnt a n < cnt b n
  | 0, hi => absurd hi (Nat.not_lt_zero i)
  | n + 1, hi => by
    by_cases e : i = n
    · subst e
      have := cnt_mono h i
      rw [cnt_yes h2, cnt_no (by rw [h1]; decide)]
      omega
    · have ih := cnt_lt h h1 h2 n (by omega)
      unfold cnt
      have hn := h n
      cases ha : a n
      · simp
        omega
      · rw [hn ha]
        simp
        omega
theorem bfr_iff {B : Bd} {o l : Nat} : bfr B o l = true ↔ (vows B l < vows B o ∨ (vows B o = vows B l ∧ o < l)) := by
  unfold bfr
  simp
theorem rank_lt {B : Bd} {l k : Nat} (hl : l < B.r + B.c) (h : bfr B l k = true) : rank B l < rank B k := by
  unfold rank
  refine cnt_lt (fun o ho => ?_) (i := l) ?_ h _ hl
  · rw [bfr_iff] at h ho ⊢
    omega
  · rw [← Bool.not_eq_true, bfr_iff]
    omega
theorem rank_inj {B : Bd} {l k : Nat} (hl : l < B.r + B.c) (hk : k < B.r + B.c) (h : rank B l = rank B k) : l = k := by
  rcases Nat.decEq l k with e | e
  · by_cases hb : bfr B l k = true
    · have := rank_lt hl hb
      omega
    · have hb2 : bfr B k l = true := by
        rw [bfr_iff] at hb ⊢
        omega
      have := rank_lt hk hb2
      omega
  · exact e
theorem rank_le (B : Bd) (l : Nat) : rank B l ≤ B.r + B.c := cnt_le _ _
def w3 (k : Nat) : Int32 := if k = 4 then -1 else nI (3 - k)
theorem w3_s : ∀ k, k < 4 → nI (3 - k) + (-1) = w3 (k + 1) := by decide
theorem rank_at {B : Bd} {j v : Nat} (hj : j < B.r + B.c) (hv : vows B j = v) : rank B j = cnt (fun o => decide (v < vows B o)) (B.r + B.c) + cnt (fun o => decide (vows B o = v)) j := by
  unfold rank
  rw [← cnt_cut (q := fun o => decide (vows B o = v)) (Nat.le_of_lt hj), ← cnt_disj (fun k h => by simp at h; omega)]
  refine cnt_congr (fun o ho => ?_)
  unfold bfr
  rw [hv]
theorem c_rank_in {w : Wo} {B : Bd} (hB : B.ok) (hC : CB w 1 B) (x1 : Int32) {v : Nat} (hv : v < 4) (K : Int32 → Int32 → Option Int32) :
    (∃ l, l < B.r + B.c ∧ vows B l = v ∧ nI (rank B l) = x1 ∧ jl2 (B_X0_lineByVowels_11 K w x1 (nI v)) fu (nI (cnt (fun o => decide (v < vows B o)) (B.r + B.c))) 0 = some (nI l)) ∨
    ((∀ l, l < B.r + B.c → vows B l = v → nI (rank B l) ≠ x1) ∧ jl2 (B_X0_lineByVowels_11 K w x1 (nI v)) fu (nI (cnt (fun o => decide (v < vows B o)) (B.r + B.c))) 0 = K (nI (cnt (fun o => decide (v < vows B o)) (B.r + B.c) + cnt (fun o => decide (vows B o = v)) (B.r + B.c))) (nI v + (-1))) := by
  have hd := dims hB
  refine jl2_inv (P := fun j a b => a = nI (cnt (fun o => decide (v < vows B o)) (B.r + B.c) + cnt (fun o => decide (vows B o = v)) j) ∧ b = nI j ∧ ∀ l, l < j → vows B l = v → nI (rank B l) ≠ x1)
    (Qr := fun r => (∃ l, l < B.r + B.c ∧ vows B l = v ∧ nI (rank B l) = x1 ∧ r = some (nI l)) ∨ ((∀ l, l < B.r + B.c → vows B l = v → nI (rank B l) ≠ x1) ∧ r = K (nI (cnt (fun o => decide (v < vows B o)) (B.r + B.c) + cnt (fun o => decide (vows B o = v)) (B.r + B.c))) (nI v + (-1)))) (B.r + B.c) (by rw [fu4]; omega) ?_ ?_ ⟨rfl, rfl, fun l h => absurd h (Nat.not_lt_zero l)⟩
  · rintro j hj a b ⟨rfl, rfl, h3⟩
    have hvl := vows_le B j
    have hln := lenB_le hB j
    by_cases e : vows B j = v
    · have hr := rank_at hj e
      by_cases e2 : nI (rank B j) = x1
      · refine Or.inr (fun K2 => Or.inl ⟨j, hj, e, e2, ?_⟩)
        unfold B_X0_lineByVowels_11
        rw [c_lines hB hC, if_neg (nI_ge hj (by omega)), c_vowelsOn hB hC hj, Option.bind_some, iteq (by omega) (by omega), if_pos e, ← hr, if_pos e2]
      · refine Or.inl ⟨nI (cnt (fun o => decide (v < vows B o)) (B.r + B.c) + cnt (fun o => decide (vows B o = v)) (j + 1)), nI (j + 1), ⟨rfl, rfl, fun l hl hvl2 => ?_⟩, fun K2 => ?_⟩
        · rcases Nat.lt_or_ge l j with h4 | h4
          · exact h3 l h4 hvl2
          · rw [show l = j by omega]
            exact e2
        · unfold B_X0_lineByVowels_11 B_X0_lineByVowels_41
          rw [c_lines hB hC, if_neg (nI_ge hj (by omega)), c_vowelsOn hB hC hj, Option.bind_some, iteq (by omega) (by omega), if_pos e, ← hr, if_neg e2, cnt_yes (decide_eq_true e), ← Nat.add_assoc, ← hr, nI_succ, nI_succ]
    · refine Or.inl ⟨nI (cnt (fun o => decide (v < vows B o)) (B.r + B.c) + cnt (fun o => decide (vows B o = v)) (j + 1)), nI (j + 1), ⟨rfl, rfl, fun l hl hvl2 => ?_⟩, fun K2 => ?_⟩
      · rcases Nat.lt_or_ge l j with h4 | h4
        · exact h3 l h4 hvl2
        · rw [show l = j by omega] at hvl2
          exact absurd hvl2 e
      · unfold B_X0_lineByVowels_11 B_X0_lineByVowels_41
        rw [c_lines hB hC, if_neg (nI_ge hj (by omega)), c_vowelsOn hB hC hj, Option.bind_some, iteq (by omega) (by omega), if_neg e, cnt_no (by rw [decide_eq_false e]; decide), nI_succ]
  · rintro a b ⟨rfl, rfl, h3⟩ K2
    refine Or.inr ⟨h3, ?_⟩
    unfold B_X0_lineByVowels_11 B_X0_lineByVowels_47
    rw [c_lines hB hC, if_pos (nI_le (Nat.le_refl _) (by omega))]
theorem c_ranked {w : Wo} {B : Bd} (hB : B.ok) (hC : CB w 1 B) (x1 : Int32) :
    (∃ l, l < B.r + B.c ∧ nI (rank B l) = x1 ∧ F_X0_lineByVowels w x1 = some (nI l)) ∨ ((∀ l, l < B.r + B.c → nI (rank B l) ≠ x1) ∧ F_X0_lineByVowels w x1 = some (-1)) := by
  have hd := dims hB
  have hnext : ∀ k, k < 4 → cnt (fun o => decide (3 < vows B o + (k + 1))) (B.r + B.c) = cnt (fun o => decide (3 - k < vows B o)) (B.r + B.c) + cnt (fun o => decide (vows B o = 3 - k)) (B.r + B.c) := by
    intro k hk
    rw [← cnt_disj (fun j h => by simp at h; omega)]
    refine cnt_congr (fun o ho => ?_)
    rw [← Bool.decide_or]
    congr 1
    apply propext
    omega
  have hnow : ∀ k, k < 4 → cnt (fun o => decide (3 < vows B o + k)) (B.r + B.c) = cnt (fun o => decide (3 - k < vows B o)) (B.r + B.c) := by
    intro k hk
    refine cnt_congr (fun o ho => ?_)
    congr 1
    apply propext
    omega
  unfold F_X0_lineByVowels
  refine jl2_inv (P := fun k a b => a = nI (cnt (fun o => decide (3 < vows B o + k)) (B.r + B.c)) ∧ b = w3 k ∧ ∀ l, l < B.r + B.c → 3 < vows B l + k → nI (rank B l) ≠ x1)
    (Qr := fun r => (∃ l, l < B.r + B.c ∧ nI (rank B l) = x1 ∧ r = some (nI l)) ∨ ((∀ l, l < B.r + B.c → nI (rank B l) ≠ x1) ∧ r = some (-1))) 4 (by rw [fu4]; omega) ?_ ?_ ⟨?_, rfl, fun l hl h => ?_⟩
  · rintro k hk a b ⟨rfl, rfl, h3⟩
    have e3 : w3 k = nI (3 - k) := by unfold w3; rw [if_neg (by omega)]
    rw [e3, hnow k hk]
    by_cases hex : ∃ l, l < B.r + B.c ∧ vows B l = 3 - k ∧ nI (rank B l) = x1
    · refine Or.inr (fun K => Or.inl ?_)
      obtain ⟨l, h4, h5, h6⟩ := hex
      unfold B_X0_lineByVowels_4
      rw [if_neg (nI_pos (by omega))]
      rcases c_rank_in hB hC x1 (v := 3 - k) (by omega) K with ⟨l2, h7, h8, h9, h10⟩ | ⟨h7, -⟩
      · exact ⟨l2, h7, h9, h10⟩
      · exact absurd h6 (h7 l h4 h5)
    · refine Or.inl ⟨_, _, ⟨rfl, rfl, fun l hl h => ?_⟩, fun K => ?_⟩
      · by_cases e : vows B l = 3 - k
        · exact fun h6 => hex ⟨l, hl, e, h6⟩
        · exact h3 l hl (by omega)
      · unfold B_X0_lineByVowels_4
        rw [if_neg (nI_pos (by omega)), hnext k hk, ← w3_s k hk]
        rcases c_rank_in hB hC x1 (v := 3 - k) (by omega) K with ⟨l2, h7, h8, h9, h10⟩ | ⟨-, h8⟩
        · exact absurd ⟨l2, h7, h8, h9⟩ hex
        · exact h8
  · rintro a b ⟨rfl, rfl, h3⟩ K
    refine Or.inr ⟨fun l hl => h3 l hl (by omega), ?_⟩
    unfold B_X0_lineByVowels_4
    rw [show w3 4 = -1 from rfl, if_pos (by decide)]
  · have hz : cnt (fun o => decide (3 < vows B o + 0)) (B.r + B.c) = 0 := by
      rcases Nat.eq_zero_or_pos (cnt (fun o => decide (3 < vows B o + 0)) (B.r + B.c)) with h | h
      · exact h
      · obtain ⟨k, hk, hq⟩ := cnt_pos.mp h
        have h1 := vows_le B k
        have h2 := lenB_le hB k
        simp at hq
        omega
    rw [hz]
    rfl
  · have h1 := vows_le B l
    have h2 := lenB_le hB l
    omega
