/-! WHERE, BEST, MEANFAR, HOMESHARE -/
def tuL (r c : Nat) (x : Int64) (t : Nat) : Int64 := (F_X0_turned (wd r c) x (nI t)).getD 0
theorem c_tu {w : Wo} {B : Bd} (hB : B.ok) (hC : CB w 1 B) (x : Int64) {t : Nat} (ht : t < 2 * (B.r + B.c)) : F_X0_turned w x (nI t) = some (tuL B.r B.c x t) ∧ ∀ q, q < 16 → nib (tuL B.r B.c x t) q = nib x (bk B.r B.c q t) := by
  obtain ⟨y, h1, h2⟩ := c_turned hB hC x ht
  have e : F_X0_turned w x (nI t) = F_X0_turned (wd B.r B.c) x (nI t) := by
    unfold F_X0_turned B_X0_turned_15 B_X0_turned_25 B_X0_turned_38 B_X0_turned_57 B_X0_turned_97 F_X0_lineStart F_X0_lineStride F_X0_lineLength
    rw [hC.1, hC.2.1]
    rfl
  have e2 : tuL B.r B.c x t = y := by
    unfold tuL
    rw [← e, h1]
    rfl
  rw [e2]
  exact ⟨h1, h2⟩
def itg (r c t p : Nat) : Nat → Nat
  | 0 => p
  | k + 1 => goes r c (itg r c t p k) t
def mkd (r c t : Nat) (x : Int64) : Nat → Int64
  | 0 => x
  | k + 1 => tuL r c (mkd r c t x k) t
theorem itg_lt {B : Bd} (hB : B.ok) {t p : Nat} (ht : t < 2 * (B.r + B.c)) (hp : p < B.n) : ∀ k, itg B.r B.c t p k < B.n
  | 0 => hp
  | k + 1 => goes_lt hB t ht _ (itg_lt hB ht hp k)
theorem bk_goes {B : Bd} (hB : B.ok) {t q x : Nat} (ht : t < 2 * (B.r + B.c)) (hx : x < B.n) (hq : q < 16) : (bk B.r B.c q t = x) = (q = goes B.r B.c x t) := by
  have hl : goes B.r B.c x t < B.n := goes_lt hB t ht x hx
  apply propext
  rcases Nat.lt_or_ge q B.n with h | h
  · constructor
    · intro e
      rw [← e, goes_bk hB ht h]
    · intro e
      rw [e]
      unfold bk
      rw [if_pos (show goes B.r B.c x t < B.r * B.c from hl)]
      exact goes_inv hB t ht x hx
  · have e : bk B.r B.c q t = q := by
      unfold bk
      rw [if_neg (by have : B.n = B.r * B.c := rfl; omega)]
    rw [e]
    constructor <;> intro <;> omega
theorem nib_mark {p q : Nat} (hp : p < 16) (hq : q < 16) : nib (jlshl 15 ((4 : Int32) * nI p)) q = if q = p then 15 else 0 := by
  rw [fourp]
  have h : ∀ i, i < 4 → (15 : Nat).testBit i = true := by decide
  by_cases e : q = p
  · rw [if_pos e, e]
    refine nib_of (by omega) (fun i hi => ?_)
    rw [bq_shl (by omega), bq_15, Nat.add_sub_cancel_left, h i hi, decide_eq_true hi, decide_eq_true (show 4 * p + i < 64 by omega), decide_eq_true (show 4 * p ≤ 4 * p + i by omega)]
    rfl
  · rw [if_neg e]
    refine nib_of (by omega) (fun i hi => ?_)
    rw [bq_shl (by omega), bq_15, Nat.zero_testBit]
    rcases Nat.lt_or_gt_of_ne e with h2 | h2
    · rw [decide_eq_false (show ¬ 4 * p ≤ 4 * q + i by omega), Bool.false_and, Bool.and_false]
    · rw [decide_eq_false (show ¬ 4 * q + i - 4 * p < 4 by omega), Bool.and_false, Bool.and_false]
theorem mkd_nib {w : Wo} {B : Bd} (hB : B.ok) (hC : CB w 1 B) {t p : Nat} (ht : t < 2 * (B.r + B.c)) (hp : p < B.n) : ∀ k, ∀ q, q < 16 → nib (mkd B.r B.c t (jlshl 15 ((4 : Int32) * nI p)) k) q = if q = itg B.r B.c t p k then 15 else 0
  | 0, q, hq => nib_mark (by have := dims hB; omega) hq
  | k + 1, q, hq => by
    have hd := dims hB
    have hb : bk B.r B.c q t < 16 := by
      rcases Nat.lt_or_ge q B.n with h | h
      · have := bk_lt hB ht h
        omega
      · unfold bk
        rw [if_neg (by have : B.n = B.r * B.c := rfl; omega)]
        exact hq
    show nib (tuL B.r B.c (mkd B.r B.c t _ k) t) q = _
    rw [(c_tu hB hC _ ht).2 q hq, mkd_nib hB hC ht hp k _ hb]
    have hq2 := bk_goes hB ht (itg_lt hB ht hp k) hq
    show _ = if q = goes B.r B.c (itg B.r B.c t p k) t then 15 else 0
    by_cases e : q = goes B.r B.c (itg B.r B.c t p k) t
    · rw [if_pos e, if_pos (hq2.mpr e)]
    · rw [if_neg e, if_neg (fun h => e (hq2.mp h))]
theorem c_behind {w : Wo} {B : Bd} (hB : B.ok) (hC : CB w 1 B) {t p N : Nat} (ht : t < 2 * (B.r + B.c)) (hp : p < B.n) (hN : N < 100) : F_X0_placeBehind w (nI p) (nI t) (nI N) = some (nI (itg B.r B.c t p N)) := by
  have hd := dims hB
  have hl := itg_lt hB ht hp N
  unfold F_X0_placeBehind B_X0_placeBehind_9
  refine jl2_run (fun k => mkd B.r B.c t (jlshl 15 ((4 : Int32) * nI p)) k) (fun k => nI k) N (by rw [fu4]; omega) (fun k hk K => ?_) (fun K => ?_) rfl rfl
  · unfold B_X0_placeBehind_12
    rw [if_neg (nI_ge hk (by omega)), (c_tu hB hC _ ht).1, Option.bind_some, nI_succ]
    rfl
  · unfold B_X0_placeBehind_12 B_X0_placeBehind_33
    rw [if_pos (nI_le (Nat.le_refl _) (by omega)), L15, c_placeOf (f := fun q => if q = itg B.r B.c t p N then 15 else 0) hB hC (fun q hq => mkd_nib hB hC ht hp N q (by omega)) (by omega), Option.bind_some]
    have hf : fst1 (fun q => (if q = itg B.r B.c t p N then 15 else 0) == 15) B.n = itg B.r B.c t p N := fst1_eq hl (by simp) (fun j hj => by
      rw [if_neg (by omega)]
      rfl)
    rw [hf, if_pos hl]
/-! the best turn -/
def bst (B : Bd) : Nat → Int32 × Int32
  | 0 => (-1, -1)
  | k + 1 => if (if B.bar (k / 2) then -1 else nI (homes B (tn B k B.cell))) ≤ (bst B k).2 then bst B k else (nI k, if B.bar (k / 2) then -1 else nI (homes B (tn B k B.cell)))
theorem bst_r (B : Bd) : ∀ k, k < 2 ^ 31 → ((bst B k).1 = -1 ∨ ∃ j, j < k ∧ (bst B k).1 = nI j)
  | 0, _ => Or.inl rfl
  | k + 1, hk => by
    unfold bst
    generalize (if B.bar (k / 2) = true then -1 else nI (homes B (tn B k B.cell))) = z
    by_cases hz : z ≤ (bst B k).2
    · rw [if_pos hz]
      rcases bst_r B k (by omega) with h | ⟨j, h1, h2⟩
      · exact Or.inl h
      · exact Or.inr ⟨j, by omega, h2⟩
    · rw [if_neg hz]
      exact Or.inr ⟨k, by omega, rfl⟩
theorem c_best {w : Wo} {B : Bd} (hB : B.ok) (hC : CB w 1 B) : F_X0_bestTurn w = some (bst B (2 * (B.r + B.c))).1 := by
  have hd := dims hB
  unfold F_X0_bestTurn
  refine jl3_run (fun k => (bst B k).1) (fun k => (bst B k).2) (fun k => nI k) (2 * (B.r + B.c)) (by rw [fu4]; omega) (fun k hk K => ?_) (fun K => ?_) rfl rfl rfl
  · obtain ⟨y, h1, h2⟩ := c_homeBehind hB hC hk
    unfold B_X0_bestTurn_6 B_X0_bestTurn_39 B_X0_bestTurn_52
    rw [c_turns hB hC, if_neg (nI_ge hk (by omega)), c_canTurn hB hC (by omega), Option.bind_some, itb0, h1, Option.bind_some, h2, Option.bind_some, nI_succ, bst]
    by_cases hb : B.bar (k / 2) = true
    · rw [hb, if_neg (by decide), if_pos rfl]
      by_cases hc : (-1 : Int32) ≤ (bst B k).2
      · rw [if_pos hc, if_pos hc]
      · rw [if_neg hc, if_neg hc]
    · rw [Bool.not_eq_true] at hb
      rw [hb, if_pos (show (!false) = true from rfl), if_neg (show ¬ (false = true) by decide)]
      by_cases hc : nI (homes B (tn B k B.cell)) ≤ (bst B k).2
      · rw [if_pos hc, if_pos hc]
      · rw [if_neg hc, if_neg hc]
  · unfold B_X0_bestTurn_6
    rw [c_turns hB hC, if_pos (nI_le (Nat.le_refl _) (by omega))]
/-! shares of numbers with a point -/
theorem share_ok : ∀ b, b < 10 → 0 < b → ∀ a, a < 10 → (FP.fdiv (FP.i2f (nI a)) (FP.i2f (nI b))) &&& 0x7fffffff ≤ 0x7f800000 ∧ (FP.f2d (FP.fdiv (FP.i2f (nI a)) (FP.i2f (nI b)))) &&& 0x7fffffffffffffff ≤ 0x7ff0000000000000 := by decide +kernel
theorem mean_ok : ∀ b, b < 10 → 0 < b → ∀ a, a < 37 → (FP.ddiv (FP.i2d (nI a)) (FP.i2d (nI b))) &&& 0x7fffffffffffffff ≤ 0x7ff0000000000000 := by decide +kernel
