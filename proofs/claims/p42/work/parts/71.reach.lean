/-! HOW FAR THE GOAL IS -/
def exb (q : Nat → Bool) : Nat → Bool
  | 0 => false
  | n + 1 => exb q n || q n
theorem exb_iff {q : Nat → Bool} : ∀ {n : Nat}, (exb q n = true ↔ ∃ k, k < n ∧ q k = true)
  | 0 => ⟨fun h => (by cases h), fun ⟨k, hk, _⟩ => absurd hk (Nat.not_lt_zero k)⟩
  | n + 1 => by
    have ih := @exb_iff q n
    rw [exb, Bool.or_eq_true, ih]
    constructor
    · rintro (⟨k, h1, h2⟩ | h)
      · exact ⟨k, by omega, h2⟩
      · exact ⟨n, by omega, h⟩
    · rintro ⟨k, h1, h2⟩
      rcases Nat.lt_or_ge k n with h | h
      · exact Or.inl ⟨k, h, h2⟩
      · rw [show k = n by omega] at h2
        exact Or.inr h2
theorem exb_false {q : Nat → Bool} {n : Nat} : exb q n = false ↔ ∀ k, k < n → q k = false := by
  rw [← Bool.not_eq_true, exb_iff]
  constructor
  · intro h k hk
    rw [← Bool.not_eq_true]
    exact fun e => h ⟨k, hk, e⟩
  · rintro h ⟨k, hk, e⟩
    rw [h k hk] at e
    cases e
theorem exb_fst {q : Nat → Bool} {n : Nat} : exb q n = decide (fst1 q n < n) := by
  by_cases h : fst1 q n < n
  · rw [decide_eq_true h, exb_iff]
    exact ⟨_, h, fst1_yes q n h⟩
  · rw [decide_eq_false h, exb_false]
    intro k hk
    exact fst1_no q n k (by omega)
theorem exb_congr {q r : Nat → Bool} {n : Nat} (h : ∀ k, k < n → q k = r k) : exb q n = exb r n := by
  by_cases e : exb r n = true
  · rw [e]
    obtain ⟨k, h1, h2⟩ := exb_iff.mp e
    exact exb_iff.mpr ⟨k, h1, by rw [h k h1]; exact h2⟩
  · rw [Bool.not_eq_true] at e
    rw [e]
    exact exb_false.mpr (fun k hk => by rw [h k hk]; exact exb_false.mp e k hk)
/-- first in blocks -/
theorem fst1_blk {q : Nat → Bool} {T U : Nat} (hU : 0 < U) : fst1 q (T * U) / U = fst1 (fun t => exb (fun j => q (t * U + j)) U) T := by
  have hle := fst1_le q (T * U)
  rcases Nat.lt_or_ge (fst1 q (T * U)) (T * U) with h | h
  · have hy := fst1_yes q (T * U) h
    have hn := fst1_no q (T * U)
    have hd : fst1 q (T * U) / U < T := (Nat.div_lt_iff_lt_mul hU).mpr h
    have hm := Nat.div_add_mod (fst1 q (T * U)) U
    have hl := Nat.mod_lt (fst1 q (T * U)) hU
    refine (fst1_eq hd ?_ (fun j hj => ?_)).symm
    · rw [exb_iff]
      refine ⟨fst1 q (T * U) % U, hl, ?_⟩
      rw [Nat.mul_comm, hm]
      exact hy
    · rw [exb_false]
      intro i hi
      refine hn _ ?_
      have h1 : (j + 1) * U ≤ fst1 q (T * U) / U * U := Nat.mul_le_mul_right U hj
      have h2 := Nat.div_mul_le_self (fst1 q (T * U)) U
      rw [Nat.succ_mul] at h1
      omega
  · have e : fst1 q (T * U) = T * U := by omega
    rw [e, Nat.mul_div_cancel _ hU]
    refine (fst1_none (fun t ht => ?_)).symm
    rw [exb_false]
    intro j hj
    refine fst1_no q (T * U) _ ?_
    rw [e]
    have h1 : (t + 1) * U ≤ T * U := Nat.mul_le_mul_right U ht
    rw [Nat.succ_mul] at h1
    omega
theorem exb_blk {q : Nat → Bool} {T U : Nat} (hU : 0 < U) : exb q (T * U) = exb (fun t => exb (fun j => q (t * U + j)) U) T := by
  rw [exb_fst, exb_fst (q := fun t => exb (fun j => q (t * U + j)) U), ← fst1_blk hU]
  congr 1
  exact propext (Nat.div_lt_iff_lt_mul hU).symm
def opn (B : Bd) (t : Nat) : Bool := !B.bar (t / 2)
def Tn (B : Bd) : Nat := 2 * (B.r + B.c)
def met (B : Bd) (f : Nat → Nat) : Bool := decide (homes B f = B.n)
def R (B : Bd) : Nat → (Nat → Nat) → Bool
  | 0, f => met B f
  | k + 1, f => exb (fun t => opn B t && R B k (tn B t f)) (Tn B)
def shl (B : Bd) (f : Nat → Nat) : Nat := if R B 0 f then 0 else if R B 1 f then 1 else if R B 2 f then 2 else if R B 3 f then 3 else 4
def ft (B : Bd) (k : Nat) (f : Nat → Nat) : Nat := fst1 (fun t => opn B t && R B k (tn B t f)) (Tn B)
def shf (B : Bd) (f : Nat → Nat) : Int32 := if shl B f = 0 ∨ shl B f = 4 then -1 else nI (ft B (shl B f - 1) f)
theorem shl_le (B : Bd) (f : Nat → Nat) : shl B f ≤ 4 := by
  unfold shl
  repeat' split
  all_goals decide
theorem shl_R {B : Bd} {f : Nat → Nat} (h : shl B f < 4) : R B (shl B f) f = true := by
  unfold shl at h ⊢
  by_cases h0 : R B 0 f = true
  · rw [if_pos h0]; exact h0
  · rw [if_neg h0] at h ⊢
    by_cases h1 : R B 1 f = true
    · rw [if_pos h1]; exact h1
    · rw [if_neg h1] at h ⊢
      by_cases h2 : R B 2 f = true
      · rw [if_pos h2]; exact h2
      · rw [if_neg h2] at h ⊢
        by_cases h3 : R B 3 f = true
        · rw [if_pos h3]; exact h3
        · rw [if_neg h3] at h
          omega
theorem shl_no {B : Bd} {f : Nat → Nat} : ∀ j, j < shl B f → R B j f = false := by
  unfold shl
  by_cases h0 : R B 0 f = true
  · rw [if_pos h0]
    intro j hj
    omega
  · rw [if_neg h0]
    rw [Bool.not_eq_true] at h0
    by_cases h1 : R B 1 f = true
    · rw [if_pos h1]
      intro j hj
      rw [show j = 0 by omega]
      exact h0
    · rw [if_neg h1]
      rw [Bool.not_eq_true] at h1
      by_cases h2 : R B 2 f = true
      · rw [if_pos h2]
        intro j hj
        rcases (by omega : j = 0 ∨ j = 1) with rfl | rfl
        · exact h0
        · exact h1
      · rw [if_neg h2]
        rw [Bool.not_eq_true] at h2
        by_cases h3 : R B 3 f = true
        · rw [if_pos h3]
          intro j hj
          rcases (by omega : j = 0 ∨ j = 1 ∨ j = 2) with rfl | rfl | rfl
          · exact h0
          · exact h1
          · exact h2
        · rw [if_neg h3]
          rw [Bool.not_eq_true] at h3
          intro j hj
          rcases (by omega : j = 0 ∨ j = 1 ∨ j = 2 ∨ j = 3) with rfl | rfl | rfl | rfl
          · exact h0
          · exact h1
          · exact h2
          · exact h3
theorem shl_eq {B : Bd} {f : Nat → Nat} {s : Nat} (hs : s < 4) (h : R B s f = true) (hn : ∀ j, j < s → R B j f = false) : shl B f = s := by
  have h1 := shl_no (B := B) (f := f)
  have h2 := shl_le B f
  rcases Nat.lt_trichotomy (shl B f) s with e | e | e
  · have h3 := shl_R (B := B) (f := f) (by omega)
    rw [hn _ e] at h3
    cases h3
  · exact e
  · rw [h1 s e] at h
    cases h
theorem shl_4 {B : Bd} {f : Nat → Nat} (hn : ∀ j, j < 4 → R B j f = false) : shl B f = 4 := by
  have h2 := shl_le B f
  rcases Nat.lt_or_ge (shl B f) 4 with e | e
  · have h3 := shl_R e
    rw [hn _ e] at h3
    cases h3
  · omega
theorem tn_lt {B : Bd} (hB : B.ok) {t : Nat} (ht : t < Tn B) {f : Nat → Nat} {N : Nat} (hf : ∀ p, p < B.n → f p < N) : ∀ p, p < B.n → tn B t f p < N := fun p hp => hf _ (bk_lt hB ht hp)
theorem opn_lt {B : Bd} (hB : B.ok) : Tn B ≤ 12 ∧ 8 ≤ Tn B := by
  have hd := dims hB
  unfold Tn
  omega
/-! by trying all, as the class does -/
def fw (B : Bd) : Nat → (Nat → Nat) → Nat
  | 0, f => if met B f then 3 else 4
  | d + 1, f => if met B f then 3 - (d + 1) else Nat.rec (motive := fun _ => Nat) 4 (fun k m => if opn B k then min m (fw B d (tn B k f)) else m) (Tn B)
def fwm (B : Bd) (d : Nat) (f : Nat → Nat) : Nat → Nat
  | 0 => 4
  | k + 1 => if opn B k then min (fwm B d f k) (fw B d (tn B k f)) else fwm B d f k
theorem fw_succ (B : Bd) (d : Nat) (f : Nat → Nat) : fw B (d + 1) f = if met B f then 3 - (d + 1) else fwm B d f (Tn B) := by
  rw [fw]
  have h : ∀ n, Nat.rec (motive := fun _ => Nat) 4 (fun k m => if opn B k then min m (fw B d (tn B k f)) else m) n = fwm B d f n := by
    intro n
    induction n with
    | zero => rfl
    | succ n ih =>
      show (if opn B n then min (Nat.rec (motive := fun _ => Nat) 4 (fun k m => if opn B k then min m (fw B d (tn B k f)) else m) n) (fw B d (tn B n f)) else Nat.rec (motive := fun _ => Nat) 4 (fun k m => if opn B k then min m (fw B d (tn B k f)) else m) n) = fwm B d f (n + 1)
      rw [ih]
      rfl
  rw [h]
theorem fwm_le (B : Bd) (d : Nat) (f : Nat → Nat) : ∀ k, fwm B d f k ≤ 4
  | 0 => Nat.le_refl 4
  | k + 1 => by
    have ih := fwm_le B d f k
    unfold fwm
    split
    · omega
    · exact ih
theorem fw_le (B : Bd) (d : Nat) (f : Nat → Nat) : fw B d f ≤ 4 := by
  cases d with
  | zero =>
    unfold fw
    split <;> omega
  | succ d =>
    rw [fw_succ]
    split
    · omega
    · exact fwm_le B d f _
theorem fwm_lb (B : Bd) (d : Nat) (f : Nat → Nat) : ∀ k t, t < k → opn B t = true → fwm B d f k ≤ fw B d (tn B t f)
  | 0, t, h, _ => absurd h (Nat.not_lt_zero t)
  | k + 1, t, h, ho => by
    unfold fwm
    rcases Nat.lt_or_ge t k with h1 | h1
    · have ih := fwm_lb B d f k t h1 ho
      split
      · omega
      · exact ih
    · have e : t = k := by omega
      subst e
      rw [if_pos ho]
      omega
theorem fwm_at (B : Bd) (d : Nat) (f : Nat → Nat) : ∀ k, fwm B d f k = 4 ∨ ∃ t, t < k ∧ opn B t = true ∧ fwm B d f k = fw B d (tn B t f)
  | 0 => Or.inl rfl
  | k + 1 => by
    have ih := fwm_at B d f k
    unfold fwm
    by_cases ho : opn B k = true
    · rw [if_pos ho]
      rcases Nat.le_total (fwm B d f k) (fw B d (tn B k f)) with h | h
      · rw [Nat.min_eq_left h]
        rcases ih with h1 | ⟨t, h1, h2, h3⟩
        · exact Or.inl h1
        · exact Or.inr ⟨t, by omega, h2, h3⟩
      · rw [Nat.min_eq_right h]
        exact Or.inr ⟨k, by omega, ho, rfl⟩
    · rw [if_neg ho]
      rcases ih with h1 | ⟨t, h1, h2, h3⟩
      · exact Or.inl h1
      · exact Or.inr ⟨t, by omega, h2, h3⟩
theorem fw_up (B : Bd) : ∀ d f, d ≤ 3 → ∀ j, j ≤ d → R B j f = true → fw B d f ≤ 3 - d + j
  | 0, f, _, j, hj, h => by
    rw [show j = 0 by omega] at h
    have h : met B f = true := h
    unfold fw
    rw [if_pos h]
    omega
  | d + 1, f, hd, j, hj, h => by
    rw [fw_succ]
    by_cases hm : met B f = true
    · rw [if_pos hm]
      omega
    · rw [if_neg hm]
      cases j with
      | zero => exact absurd h hm
      | succ j =>
        obtain ⟨t, h1, h2⟩ := exb_iff.mp h
        rw [Bool.and_eq_true] at h2
        have h3 := fw_up B d (tn B t f) (by omega) j (by omega) h2.2
        have h4 := fwm_lb B d f (Tn B) t h1 h2.1
        omega
theorem fw_dn (B : Bd) : ∀ d f, d ≤ 3 → (fw B d f = 4 ∨ ∃ j, j ≤ d ∧ R B j f = true ∧ fw B d f = 3 - d + j)
  | 0, f, _ => by
    unfold fw
    by_cases hm : met B f = true
    · rw [if_pos hm]
      exact Or.inr ⟨0, by omega, hm, rfl⟩
    · rw [if_neg hm]
      exact Or.inl rfl
  | d + 1, f, hd => by
    rw [fw_succ]
    by_cases hm : met B f = true
    · rw [if_pos hm]
      exact Or.inr ⟨0, by omega, hm, rfl⟩
    · rw [if_neg hm]
      rcases fwm_at B d f (Tn B) with h | ⟨t, h1, h2, h3⟩
      · exact Or.inl h
      · rcases fw_dn B d (tn B t f) (by omega) with h4 | ⟨j, h4, h5, h6⟩
        · exact Or.inl (h3.trans h4)
        · refine Or.inr ⟨j + 1, by omega, exb_iff.mpr ⟨t, h1, ?_⟩, by omega⟩
          rw [h2, h5]
          rfl
theorem fw_shl (B : Bd) (f : Nat → Nat) : fw B 3 f = shl B f := by
  have h1 := fw_up B 3 f (by omega)
  have h2 := fw_le B 3 f
  rcases fw_dn B 3 f (by omega) with h | ⟨j, h3, h4, h5⟩
  · rw [h]
    refine (shl_4 (fun j hj => ?_)).symm
    rw [← Bool.not_eq_true]
    intro e
    have := h1 j (by omega) e
    omega
  · rw [h5]
    refine (shl_eq (by omega) (by rw [show 3 - 3 + j = j by omega]; exact h4) (fun i hi => ?_)).symm
    rw [← Bool.not_eq_true]
    intro e
    have := h1 i (by omega) e
    omega
theorem jmin_nI {a b : Nat} (ha : a < 2 ^ 31) (hb : b < 2 ^ 31) : jmin (nI a) (nI b) = nI (min a b) := by
  unfold jmin
  rw [itlt hb ha]
  rcases Nat.lt_or_ge b a with h | h
  · rw [if_pos h, Nat.min_eq_right (by omega)]
  · rw [if_neg (by omega), Nat.min_eq_left h]
theorem c_fewest {w : Wo} {B : Bd} (hB : B.ok) (hC : CB w 1 B) : ∀ d, d ≤ 3 → ∀ (x : Int64) (f : Nat → Nat), (∀ p, p < 16 → nib x p = f p) → F_X5_fewestFrom w (d + 2) x (nI (3 - d)) = some (nI (fw B d f)) := by
  have hd := dims hB
  have ho := opn_lt hB
  intro d
  induction d with
  | zero =>
    intro _ x f hf
    show S_X5_fewestFrom (F_X5_fewestFrom w 1) w x (nI 3) = _
    unfold S_X5_fewestFrom
    rw [c_isGoal hB hC (f := f) (fun p hp => hf p (by omega)), Option.bind_some, itb0]
    unfold fw met
    by_cases h : decide (homes B f = B.n) = true
    · rw [if_pos h, if_pos h]
    · rw [if_neg h, if_neg h, if_neg (show ¬ nI 3 < 3 by decide)]
      rfl
  | succ d ih =>
    intro hd3 x f hf
    show S_X5_fewestFrom (F_X5_fewestFrom w (d + 2)) w x (nI (3 - (d + 1))) = _
    unfold S_X5_fewestFrom
    rw [c_isGoal hB hC (f := f) (fun p hp => hf p (by omega)), Option.bind_some, itb0, fw_succ]
    by_cases h : decide (homes B f = B.n) = true
    · rw [if_pos h, if_pos (show met B f = true from h)]
    · rw [if_neg h, if_neg (show ¬ met B f = true from h), L3, if_pos (nI_lt (by omega) (by omega))]
      refine jl2_run (fun k => nI (fwm B d f k)) (fun k => nI k) (Tn B) (by rw [fu4]; omega) (fun k hk K => ?_) (fun K => ?_) rfl rfl
      · obtain ⟨y1, y2⟩ := c_tu hB hC x hk
        have hi := ih (by omega) (tuL B.r B.c x k) (tn B k f) (fun q hq => by
          rw [y2 q hq]
          refine hf _ ?_
          rcases Nat.lt_or_ge q B.n with h | h
          · have := bk_lt hB hk h
            omega
          · unfold bk
            rw [if_neg (by have : B.n = B.r * B.c := rfl; omega)]
            exact hq)
        have hl1 := fwm_le B d f k
        have hl2 := fw_le B d (tn B k f)
        have e31 : nI (3 - (d + 1)) + 1 = nI (3 - d) := by
          rw [nI_1, show 3 - (d + 1) + 1 = 3 - d by omega]
        unfold B_X5_fewestFrom_24 B_X5_fewestFrom_63
        rw [show F_X0_turns w = nI (Tn B) from c_turns hB hC, if_neg (nI_ge hk (by omega)), c_canTurn hB hC (by omega), Option.bind_some, itb0, y1, Option.bind_some, e31, hi, Option.bind_some, fwm]
        by_cases hop : opn B k = true
        · rw [if_pos hop, if_pos (show (!B.bar (k / 2)) = true from hop), nI_succ]
          rw [show jmin (nI (fwm B d f k)) (nI (fw B d (tn B k f))) = nI (min (fwm B d f k) (fw B d (tn B k f))) from jmin_nI (by omega) (by omega)]
        · rw [if_neg hop, if_neg (show ¬ (!B.bar (k / 2)) = true from hop), nI_succ]
      · unfold B_X5_fewestFrom_24
        rw [show F_X0_turns w = nI (Tn B) from c_turns hB hC, if_pos (nI_le (Nat.le_refl _) (by omega))]
theorem homes_cg {B : Bd} {f g : Nat → Nat} (h : ∀ p, p < B.n → f p = g p) : homes B f = homes B g := cnt_congr (fun k hk => by unfold homeq; rw [h k hk])
theorem R_cg {B : Bd} (hB : B.ok) : ∀ k {f g : Nat → Nat}, (∀ p, p < B.n → f p = g p) → R B k f = R B k g
  | 0, f, g, h => by
    show met B f = met B g
    unfold met
    rw [homes_cg h]
  | k + 1, f, g, h => by
    show exb _ _ = exb _ _
    refine exb_congr (fun t ht => ?_)
    rw [R_cg hB k (f := tn B t f) (g := tn B t g) (fun p hp => h _ (bk_lt hB ht hp))]
theorem c_byAll {w : Wo} {B : Bd} (hB : B.ok) (hC : CB w 1 B) : F_X5_fewestByAll w = some (nI (shl B B.cell)) := by
  unfold F_X5_fewestByAll
  have h := c_fewest hB hC 3 (by omega) (gL w 1 2) (fun p => nib (gL w 1 2) p) (fun _ _ => rfl)
  have e : shl B (fun p => nib (gL w 1 2) p) = shl B B.cell := by
    unfold shl
    have hc : ∀ p, p < B.n → (fun p => nib (gL w 1 2) p) p = B.cell p := fun p hp => hC.2.2.1 p hp
    rw [R_cg hB 0 hc, R_cg hB 1 hc, R_cg hB 2 hc, R_cg hB 3 hc]
  rw [show F_X5_fewestFrom w 5 (gL w 1 2) 0 = _ from h, Option.bind_some, fw_shl, e]
/-! by all rows of turns, as the reference does -/
def lead (B : Bd) : Nat → Nat → (Nat → Nat) → Bool
  | 0, _, f => met B f
  | L + 1, x, f => opn B (x / Tn B ^ L % Tn B) && lead B L x (tn B (x / Tn B ^ L % Tn B) f)
theorem lead_mod {B : Bd} (hT : 0 < Tn B) : ∀ L a j f, lead B L (a * Tn B ^ L + j) f = lead B L j f
  | 0, _, _, _ => rfl
  | L + 1, a, j, f => by
    have hp : 0 < Tn B ^ L := Nat.pow_pos hT
    have e : (a * Tn B ^ (L + 1) + j) / Tn B ^ L % Tn B = j / Tn B ^ L % Tn B := by
      rw [Nat.pow_succ, show a * (Tn B ^ L * Tn B) + j = j + a * Tn B * Tn B ^ L by rw [Nat.mul_comm (Tn B ^ L), ← Nat.mul_assoc, Nat.add_comm], Nat.add_mul_div_right _ _ hp, Nat.add_mul_mod_self_right]
    unfold lead
    rw [e, show a * Tn B ^ (L + 1) + j = a * Tn B * Tn B ^ L + j by rw [Nat.pow_succ, Nat.mul_comm (Tn B ^ L), ← Nat.mul_assoc], lead_mod hT L]
theorem lead_R {B : Bd} (hT : 0 < Tn B) : ∀ L f, exb (fun x => lead B L x f) (Tn B ^ L) = R B L f
  | 0, f => by
    show (false || met B f) = met B f
    rw [Bool.false_or]
  | L + 1, f => by
    have hp : 0 < Tn B ^ L := Nat.pow_pos hT
    rw [Nat.pow_succ, Nat.mul_comm, exb_blk hp]
    show _ = exb _ _
    refine exb_congr (fun t ht => ?_)
    rw [← lead_R hT L (tn B t f)]
    have e : ∀ j, j < Tn B ^ L → lead B (L + 1) (t * Tn B ^ L + j) f = (opn B t && lead B L j (tn B t f)) := by
      intro j hj
      have e2 : (t * Tn B ^ L + j) / Tn B ^ L % Tn B = t := by
        rw [Nat.add_comm, Nat.add_mul_div_right _ _ hp, Nat.div_eq_of_lt hj, Nat.zero_add, Nat.mod_eq_of_lt ht]
      rw [lead, e2, lead_mod hT]
    rw [exb_congr e]
    cases opn B t
    · exact exb_false.mpr (fun _ _ => rfl)
    · rfl
theorem lead_ft {B : Bd} (hT : 0 < Tn B) (L : Nat) (f : Nat → Nat) : fst1 (fun x => lead B (L + 1) x f) (Tn B ^ (L + 1)) / Tn B ^ L = ft B L f := by
  have hp : 0 < Tn B ^ L := Nat.pow_pos hT
  rw [Nat.pow_succ, Nat.mul_comm, fst1_blk hp]
  unfold ft
  refine fst1_congr (fun t ht => ?_)
  rw [← lead_R hT L (tn B t f)]
  have e : ∀ j, j < Tn B ^ L → lead B (L + 1) (t * Tn B ^ L + j) f = (opn B t && lead B L j (tn B t f)) := by
    intro j hj
    have e2 : (t * Tn B ^ L + j) / Tn B ^ L % Tn B = t := by
      rw [Nat.add_comm, Nat.add_mul_div_right _ _ hp, Nat.div_eq_of_lt hj, Nat.zero_add, Nat.mod_eq_of_lt ht]
    rw [lead, e2, lead_mod hT]
  rw [exb_congr e]
  cases opn B t
  · exact exb_false.mpr (fun _ _ => rfl)
  · rfl
def ut (B : Bd) : Nat → Nat
  | 0 => 0
  | j + 1 => Tn B ^ j
theorem pow3 {B : Bd} (hB : B.ok) : ∀ L, L ≤ 3 → Tn B ^ L ≤ 1728 := by
  intro L hL
  have h1 := (opn_lt hB).1
  have h2 : Tn B ^ L ≤ 12 ^ L := Nat.pow_le_pow_left h1 L
  have h3 : 12 ^ L ≤ 12 ^ 3 := Nat.pow_le_pow_right (by decide) hL
  have h4 : 12 ^ 3 = 1728 := by decide
  omega
