/-! MORE CASES THAT ONLY READ; loops by an invariant -/
section JI
variable {A B C D ρ : Type}
theorem jl1_iv {f : (A → Option ρ) → A → Option ρ} {P : Nat → A → Prop} {Qr : Option ρ → Prop} (m : Nat) (hs : ∀ k, k < m → ∀ a, P k a → (∃ a', P (k + 1) a' ∧ ∀ K, f K a = K a') ∨ ∀ K, Qr (f K a)) (he : ∀ a, P m a → ∀ K, Qr (f K a)) : ∀ (d k F : Nat) (a : A), k + d = m → d < F → P k a → Qr (jl1 f F a)
  | 0, k, F + 1, a, hk, _, hP => he a (by rw [← show k = m by omega]; exact hP) _
  | d + 1, k, F + 1, a, hk, hF, hP => by
    show Qr (f (jl1 f F) a)
    rcases hs k (by omega) a hP with ⟨a', h1, h2⟩ | h
    · rw [h2]
      exact jl1_iv m hs he d (k + 1) F a' (by omega) (by omega) h1
    · exact h _
theorem jl2_iv {f : (A → B → Option ρ) → A → B → Option ρ} {P : Nat → A → B → Prop} {Qr : Option ρ → Prop} (m : Nat) (hs : ∀ k, k < m → ∀ a b, P k a b → (∃ a' b', P (k + 1) a' b' ∧ ∀ K, f K a b = K a' b') ∨ ∀ K, Qr (f K a b)) (he : ∀ a b, P m a b → ∀ K, Qr (f K a b)) : ∀ (d k F : Nat) (a : A) (b : B), k + d = m → d < F → P k a b → Qr (jl2 f F a b)
  | 0, k, F + 1, a, b, hk, _, hP => he a b (by rw [← show k = m by omega]; exact hP) _
  | d + 1, k, F + 1, a, b, hk, hF, hP => by
    show Qr (f (jl2 f F) a b)
    rcases hs k (by omega) a b hP with ⟨a', b', h1, h2⟩ | h
    · rw [h2]
      exact jl2_iv m hs he d (k + 1) F a' b' (by omega) (by omega) h1
    · exact h _
theorem jl3_iv {f : (A → B → C → Option ρ) → A → B → C → Option ρ} {P : Nat → A → B → C → Prop} {Qr : Option ρ → Prop} (m : Nat) (hs : ∀ k, k < m → ∀ a b c, P k a b c → (∃ a' b' c', P (k + 1) a' b' c' ∧ ∀ K, f K a b c = K a' b' c') ∨ ∀ K, Qr (f K a b c)) (he : ∀ a b c, P m a b c → ∀ K, Qr (f K a b c)) : ∀ (d k F : Nat) (a : A) (b : B) (c : C), k + d = m → d < F → P k a b c → Qr (jl3 f F a b c)
  | 0, k, F + 1, a, b, c, hk, _, hP => he a b c (by rw [← show k = m by omega]; exact hP) _
  | d + 1, k, F + 1, a, b, c, hk, hF, hP => by
    show Qr (f (jl3 f F) a b c)
    rcases hs k (by omega) a b c hP with ⟨a', b', c', h1, h2⟩ | h
    · rw [h2]
      exact jl3_iv m hs he d (k + 1) F a' b' c' (by omega) (by omega) h1
    · exact h _
theorem jl4_iv {f : (A → B → C → D → Option ρ) → A → B → C → D → Option ρ} {P : Nat → A → B → C → D → Prop} {Qr : Option ρ → Prop} (m : Nat) (hs : ∀ k, k < m → ∀ a b c d, P k a b c d → (∃ a' b' c' d', P (k + 1) a' b' c' d' ∧ ∀ K, f K a b c d = K a' b' c' d') ∨ ∀ K, Qr (f K a b c d)) (he : ∀ a b c d, P m a b c d → ∀ K, Qr (f K a b c d)) : ∀ (n k F : Nat) (a : A) (b : B) (c : C) (d : D), k + n = m → n < F → P k a b c d → Qr (jl4 f F a b c d)
  | 0, k, F + 1, a, b, c, d, hk, _, hP => he a b c d (by rw [← show k = m by omega]; exact hP) _
  | n + 1, k, F + 1, a, b, c, d, hk, hF, hP => by
    show Qr (f (jl4 f F) a b c d)
    rcases hs k (by omega) a b c d hP with ⟨a', b', c', d', h1, h2⟩ | h
    · rw [h2]
      exact jl4_iv m hs he n (k + 1) F a' b' c' d' (by omega) (by omega) h1
    · exact h _
end JI
theorem jl1_inv {A ρ : Type} {f : (A → Option ρ) → A → Option ρ} {P : Nat → A → Prop} {Qr : Option ρ → Prop} (m : Nat) (hm : m < fu) (hs : ∀ k, k < m → ∀ a, P k a → (∃ a', P (k + 1) a' ∧ ∀ K, f K a = K a') ∨ ∀ K, Qr (f K a)) (he : ∀ a, P m a → ∀ K, Qr (f K a)) {a : A} (h0 : P 0 a) : Qr (jl1 f fu a) := jl1_iv m hs he m 0 fu a (by omega) hm h0
theorem jl2_inv {A B ρ : Type} {f : (A → B → Option ρ) → A → B → Option ρ} {P : Nat → A → B → Prop} {Qr : Option ρ → Prop} (m : Nat) (hm : m < fu) (hs : ∀ k, k < m → ∀ a b, P k a b → (∃ a' b', P (k + 1) a' b' ∧ ∀ K, f K a b = K a' b') ∨ ∀ K, Qr (f K a b)) (he : ∀ a b, P m a b → ∀ K, Qr (f K a b)) {a : A} {b : B} (h0 : P 0 a b) : Qr (jl2 f fu a b) := jl2_iv m hs he m 0 fu a b (by omega) hm h0
theorem jl3_inv {A B C ρ : Type} {f : (A → B → C → Option ρ) → A → B → C → Option ρ} {P : Nat → A → B → C → Prop} {Qr : Option ρ → Prop} (m : Nat) (hm : m < fu) (hs : ∀ k, k < m → ∀ a b c, P k a b c → (∃ a' b' c', P (k + 1) a' b' c' ∧ ∀ K, f K a b c = K a' b' c') ∨ ∀ K, Qr (f K a b c)) (he : ∀ a b c, P m a b c → ∀ K, Qr (f K a b c)) {a : A} {b : B} {c : C} (h0 : P 0 a b c) : Qr (jl3 f fu a b c) := jl3_iv m hs he m 0 fu a b c (by omega) hm h0
theorem jl4_inv {A B C D ρ : Type} {f : (A → B → C → D → Option ρ) → A → B → C → D → Option ρ} {P : Nat → A → B → C → D → Prop} {Qr : Option ρ → Prop} (m : Nat) (hm : m < fu) (hs : ∀ k, k < m → ∀ a b c d, P k a b c d → (∃ a' b' c' d', P (k + 1) a' b' c' d' ∧ ∀ K, f K a b c d = K a' b' c' d') ∨ ∀ K, Qr (f K a b c d)) (he : ∀ a b c d, P m a b c d → ∀ K, Qr (f K a b c d)) {a : A} {b : B} {c : C} {d : D} (h0 : P 0 a b c d) : Qr (jl4 f fu a b c d) := jl4_iv m hs he m 0 fu a b c d (by omega) hm h0
theorem wyC_0 : wyC 0 = -1 := rfl
theorem mul2 (n : Nat) : (2 : Int32) * nI n = nI (2 * n) := pk_mul 2 n
theorem vows_all {B : Bd} (hB : B.ok) : sumN (vows B) B.r = times B.cell B.n 0 + times B.cell B.n 4 + times B.cell B.n 8 := by
  have h3 : times B.cell B.n 0 + times B.cell B.n 4 + times B.cell B.n 8 = cnt (fun p => isVow (B.cell p)) B.n := by
    unfold times
    generalize B.n = n
    induction n with
    | zero => rfl
    | succ n ih =>
      show (cnt (fun p => B.cell p == 0) n + (if (B.cell n == 0) = true then 1 else 0)) + (cnt (fun p => B.cell p == 4) n + (if (B.cell n == 4) = true then 1 else 0)) + (cnt (fun p => B.cell p == 8) n + (if (B.cell n == 8) = true then 1 else 0)) = cnt (fun p => isVow (B.cell p)) n + (if isVow (B.cell n) = true then 1 else 0)
      rw [← ih]
      unfold isVow
      by_cases a : B.cell n = 0
      · simp [a]; omega
      · by_cases b : B.cell n = 4
        · simp [b]; omega
        · by_cases c : B.cell n = 8
          · simp [c]; omega
          · simp [a, b, c]
  have hv : ∀ l, l < B.r → vows B l = cnt (fun i => isVow (B.cell (l * B.c + i))) B.c := by
    intro l hl
    unfold vows vowOn lenB pl
    rw [if_pos hl]
    refine cnt_congr (fun k _ => ?_)
    rw [if_pos hl]
  have hs : ∀ q : Nat → Bool, ∀ c r, sumN (fun l => cnt (fun i => q (l * c + i)) c) r = cnt q (r * c) := by
    intro q c r
    have hc : ∀ a b, cnt q (a + b) = cnt q a + cnt (fun i => q (a + i)) b := by
      intro a b
      induction b with
      | zero => rfl
      | succ b ih =>
        show cnt q (a + b) + (if q (a + b) = true then 1 else 0) = cnt q a + (cnt (fun i => q (a + i)) b + (if q (a + b) = true then 1 else 0))
        rw [ih]
        omega
    induction r with
    | zero => rw [Nat.zero_mul]; rfl
    | succ r ih =>
      rw [Nat.succ_mul, hc, ← ih]
      rfl
  have hsum : ∀ (f g : Nat → Nat) n, (∀ l, l < n → f l = g l) → sumN f n = sumN g n := by
    intro f g n
    induction n with
    | zero => intro _; rfl
    | succ n ih =>
      intro h
      unfold sumN
      rw [ih (fun l hl => h l (by omega)), h n (by omega)]
  rw [h3, hsum _ _ _ hv]
  exact hs (fun p => isVow (B.cell p)) B.c B.r
