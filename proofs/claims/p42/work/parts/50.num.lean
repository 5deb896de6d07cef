/-! THE PURE PART: numbers, loops -/
theorem L0 : (0 : Int32) = nI 0 := rfl
theorem L1 : (1 : Int32) = nI 1 := rfl
theorem L2 : (2 : Int32) = nI 2 := rfl
theorem L3 : (3 : Int32) = nI 3 := rfl
theorem L4 : (4 : Int32) = nI 4 := rfl
theorem L5 : (5 : Int32) = nI 5 := rfl
theorem L6 : (6 : Int32) = nI 6 := rfl
theorem L7 : (7 : Int32) = nI 7 := rfl
theorem L8 : (8 : Int32) = nI 8 := rfl
theorem L9 : (9 : Int32) = nI 9 := rfl
theorem L10 : (10 : Int32) = nI 10 := rfl
theorem L11 : (11 : Int32) = nI 11 := rfl
theorem L12 : (12 : Int32) = nI 12 := rfl
theorem L14 : (14 : Int32) = nI 14 := rfl
theorem L15 : (15 : Int32) = nI 15 := rfl
theorem L23 : (23 : Int32) = nI 23 := rfl
theorem L31 : (31 : Int32) = nI 31 := rfl
theorem L32 : (32 : Int32) = nI 32 := rfl
theorem L60 : (60 : Int32) = nI 60 := rfl
theorem L73 : (73 : Int32) = nI 73 := rfl
theorem L41 : (41 : Int32) = nI 41 := rfl
theorem L99 : (99 : Int32) = nI 99 := rfl
theorem L46 : (46 : Int32) = nI 46 := rfl
theorem L47 : (47 : Int32) = nI 47 := rfl
theorem L48 : (48 : Int32) = nI 48 := rfl
theorem L97 : (97 : Int32) = nI 97 := rfl
theorem L108 : (108 : Int32) = nI 108 := rfl
theorem L224 : (224 : Int32) = nI 224 := rfl
theorem L999 : (999 : Int32) = nI 999 := rfl
theorem L1000 : (1000 : Int32) = nI 1000 := rfl
theorem jrem_nI {a d : Nat} (ha : a < 2 ^ 31) (h0 : 0 < d) (hd : d < 2 ^ 31) : jrem (nI a) (nI d) = nI (a % d) := pk_rem ha h0 hd
theorem jchk_nI {α : Type} {a N : Nat} {o : Option α} (h : a < N) (hN : N < 2 ^ 31) : jchk (¬ (nI a < nI 0 ∨ N ≤ (nI a).toNatClampNeg)) o = o := by
  unfold jchk
  exact if_pos (nI_in h hN)
theorem jchk_pos {α : Type} {c : Prop} [Decidable c] {o : Option α} (h : c) : jchk c o = o := by
  unfold jchk
  rw [if_pos h]
theorem nI_ge0 {a : Nat} (ha : a < 2 ^ 31) : (nI a < nI 0) = False := eq_false (fun h => nI_pos ha h)
theorem nI_m1 {a : Nat} (ha : a < 2 ^ 31) : (nI a = -1) = False := eq_false (fun h => by
  have h1 := congrArg Int32.toInt h
  rw [nI_toInt ha] at h1
  have : ((-1 : Int32)).toInt = -1 := by decide
  omega)
theorem m1_nI {a : Nat} (ha : a < 2 ^ 31) : ((-1 : Int32) = nI a) = False := eq_false (fun h => by
  have := nI_m1 ha
  rw [h] at this
  simp at this)
theorem m1_lt0 : ((-1 : Int32) < nI 0) = True := eq_true (by decide)
theorem le_m1 {a : Nat} (ha : a < 2 ^ 31) : (nI a ≤ -1) = False := eq_false (fun h => by
  rw [Int32.le_iff_toInt_le, nI_toInt ha] at h
  have : ((-1 : Int32)).toInt = -1 := by decide
  omega)
theorem m1_lt {a : Nat} (ha : a < 2 ^ 31) : ((-1 : Int32) < nI a) = True := eq_true (by
  rw [Int32.lt_iff_toInt_lt, nI_toInt ha]
  have : ((-1 : Int32)).toInt = -1 := by decide
  omega)
theorem nleI {a b : Nat} (ha : a < 2 ^ 31) (hb : b < 2 ^ 31) : (nI a ≤ nI b) = (a ≤ b) := propext (nI_leI ha hb)
theorem nltI {a b : Nat} (ha : a < 2 ^ 31) (hb : b < 2 ^ 31) : (nI a < nI b) = (a < b) := propext (nI_ltI ha hb)
theorem neqI {a b : Nat} (ha : a < 2 ^ 31) (hb : b < 2 ^ 31) : (nI a = nI b) = (a = b) := propext (nI_eq ha hb)
/-- an int outside 0 .. N - 1, or a number below N -/
theorem ixc (x : Int32) (N : Nat) (hN : N < 2 ^ 31) : (x < nI 0 ∨ nI N ≤ x) ∨ ∃ j : Nat, j < N ∧ x = nI j := by
  rcases pk_ix x hN with h | h | h
  · exact Or.inl (Or.inl h)
  · exact Or.inl (Or.inr h)
  · exact Or.inr h
/-! loops -/
section JL
variable {A B C D E ρ : Type}
theorem jl1_go {f : (A → Option ρ) → A → Option ρ} {a : Nat → A} {res : Option ρ} (m : Nat) (hs : ∀ k, k < m → ∀ K, f K (a k) = K (a (k + 1))) (he : ∀ K, f K (a m) = res) : ∀ (d k F : Nat), k + d = m → d < F → jl1 f F (a k) = res
  | 0, k, F + 1, hk, _ => by
    have e : k = m := by omega
    subst e
    exact he _
  | d + 1, k, F + 1, hk, hF => by
    show f (jl1 f F) (a k) = res
    rw [hs k (by omega)]
    exact jl1_go m hs he d (k + 1) F (by omega) (by omega)
theorem jl2_go {f : (A → B → Option ρ) → A → B → Option ρ} {a : Nat → A} {b : Nat → B} {res : Option ρ} (m : Nat) (hs : ∀ k, k < m → ∀ K, f K (a k) (b k) = K (a (k + 1)) (b (k + 1))) (he : ∀ K, f K (a m) (b m) = res) : ∀ (d k F : Nat), k + d = m → d < F → jl2 f F (a k) (b k) = res
  | 0, k, F + 1, hk, _ => by
    have e : k = m := by omega
    subst e
    exact he _
  | d + 1, k, F + 1, hk, hF => by
    show f (jl2 f F) (a k) (b k) = res
    rw [hs k (by omega)]
    exact jl2_go m hs he d (k + 1) F (by omega) (by omega)
theorem jl3_go {f : (A → B → C → Option ρ) → A → B → C → Option ρ} {a : Nat → A} {b : Nat → B} {c : Nat → C} {res : Option ρ} (m : Nat) (hs : ∀ k, k < m → ∀ K, f K (a k) (b k) (c k) = K (a (k + 1)) (b (k + 1)) (c (k + 1))) (he : ∀ K, f K (a m) (b m) (c m) = res) : ∀ (d k F : Nat), k + d = m → d < F → jl3 f F (a k) (b k) (c k) = res
  | 0, k, F + 1, hk, _ => by
    have e : k = m := by omega
    subst e
    exact he _
  | d + 1, k, F + 1, hk, hF => by
    show f (jl3 f F) (a k) (b k) (c k) = res
    rw [hs k (by omega)]
    exact jl3_go m hs he d (k + 1) F (by omega) (by omega)
theorem jl4_go {f : (A → B → C → D → Option ρ) → A → B → C → D → Option ρ} {a : Nat → A} {b : Nat → B} {c : Nat → C} {d' : Nat → D} {res : Option ρ} (m : Nat) (hs : ∀ k, k < m → ∀ K, f K (a k) (b k) (c k) (d' k) = K (a (k + 1)) (b (k + 1)) (c (k + 1)) (d' (k + 1))) (he : ∀ K, f K (a m) (b m) (c m) (d' m) = res) : ∀ (d k F : Nat), k + d = m → d < F → jl4 f F (a k) (b k) (c k) (d' k) = res
  | 0, k, F + 1, hk, _ => by
    have e : k = m := by omega
    subst e
    exact he _
  | d + 1, k, F + 1, hk, hF => by
    show f (jl4 f F) (a k) (b k) (c k) (d' k) = res
    rw [hs k (by omega)]
    exact jl4_go m hs he d (k + 1) F (by omega) (by omega)
end JL
theorem jl1_run {A ρ : Type} {f : (A → Option ρ) → A → Option ρ} (a : Nat → A) {res : Option ρ} (m : Nat) (hm : m < fu) (hs : ∀ k, k < m → ∀ K, f K (a k) = K (a (k + 1))) (he : ∀ K, f K (a m) = res) {a0 : A} (h0 : a0 = a 0) : jl1 f fu a0 = res := by
  subst h0
  exact jl1_go m hs he m 0 fu (by omega) hm
theorem jl2_run {A B ρ : Type} {f : (A → B → Option ρ) → A → B → Option ρ} (a : Nat → A) (b : Nat → B) {res : Option ρ} (m : Nat) (hm : m < fu) (hs : ∀ k, k < m → ∀ K, f K (a k) (b k) = K (a (k + 1)) (b (k + 1))) (he : ∀ K, f K (a m) (b m) = res) {a0 : A} {b0 : B} (h0 : a0 = a 0) (h1 : b0 = b 0) : jl2 f fu a0 b0 = res := by
  subst h0
  subst h1
  exact jl2_go m hs he m 0 fu (by omega) hm
theorem jl3_run {A B C ρ : Type} {f : (A → B → C → Option ρ) → A → B → C → Option ρ} (a : Nat → A) (b : Nat → B) (c : Nat → C) {res : Option ρ} (m : Nat) (hm : m < fu) (hs : ∀ k, k < m → ∀ K, f K (a k) (b k) (c k) = K (a (k + 1)) (b (k + 1)) (c (k + 1))) (he : ∀ K, f K (a m) (b m) (c m) = res) {a0 : A} {b0 : B} {c0 : C} (h0 : a0 = a 0) (h1 : b0 = b 0) (h2 : c0 = c 0) : jl3 f fu a0 b0 c0 = res := by
  subst h0
  subst h1
  subst h2
  exact jl3_go m hs he m 0 fu (by omega) hm
theorem jl4_run {A B C D ρ : Type} {f : (A → B → C → D → Option ρ) → A → B → C → D → Option ρ} (a : Nat → A) (b : Nat → B) (c : Nat → C) (d : Nat → D) {res : Option ρ} (m : Nat) (hm : m < fu) (hs : ∀ k, k < m → ∀ K, f K (a k) (b k) (c k) (d k) = K (a (k + 1)) (b (k + 1)) (c (k + 1)) (d (k + 1))) (he : ∀ K, f K (a m) (b m) (c m) (d m) = res) {a0 : A} {b0 : B} {c0 : C} {d0 : D} (h0 : a0 = a 0) (h1 : b0 = b 0) (h2 : c0 = c 0) (h3 : d0 = d 0) : jl4 f fu a0 b0 c0 d0 = res := by
  subst h0
  subst h1
  subst h2
  subst h3
  exact jl4_go m hs he m 0 fu (by omega) hm
theorem fu4 : fu = 4000 := rfl
/-! counts and first places -/
def cnt (q : Nat → Bool) : Nat → Nat
  | 0 => 0
  | n + 1 => cnt q n + (if q n then 1 else 0)
theorem cnt_le (q : Nat → Bool) : ∀ n, cnt q n ≤ n
  | 0 => Nat.le_refl 0
  | n + 1 => by
    have := cnt_le q n
    unfold cnt
    split <;> omega
theorem cnt_congr {q r : Nat → Bool} : ∀ {n : Nat}, (∀ k, k < n → q k = r k) → cnt q n = cnt r n
  | 0, _ => rfl
  | n + 1, h => by
    unfold cnt
    rw [cnt_congr (fun k hk => h k (by omega)), h n (by omega)]
theorem cnt_yes {q : Nat → Bool} {n : Nat} (h : q n = true) : cnt q (n + 1) = cnt q n + 1 := by rw [cnt, if_pos h]
theorem cnt_no {q : Nat → Bool} {n : Nat} (h : ¬ q n = true) : cnt q (n + 1) = cnt q n := by rw [cnt, if_neg h]; rfl
theorem cnt_full {q : Nat → Bool} : ∀ {n : Nat}, (cnt q n = n ↔ ∀ k, k < n → q k = true)
  | 0 => ⟨fun _ k hk => absurd hk (Nat.not_lt_zero k), fun _ => rfl⟩
  | n + 1 => by
    have ih := @cnt_full q n
    have hl := cnt_le q n
    by_cases h : q n = true
    · rw [cnt_yes h]
      constructor
      · intro e k hk
        rcases Nat.lt_or_ge k n with h1 | h1
        · exact ih.mp (by omega) k h1
        · rw [show k = n by omega]
          exact h
      · intro hk
        rw [ih.mpr (fun k h1 => hk k (by omega))]
    · rw [cnt_no h]
      constructor
      · intro e
        omega
      · intro hk
        exact absurd (hk n (by omega)) h
theorem cnt_pos {q : Nat → Bool} : ∀ {n : Nat}, (0 < cnt q n ↔ ∃ k, k < n ∧ q k = true)
  | 0 => ⟨fun h => absurd h (Nat.lt_irrefl 0), fun ⟨k, hk, _⟩ => absurd hk (Nat.not_lt_zero k)⟩
  | n + 1 => by
    have ih := @cnt_pos q n
    by_cases h : q n = true
    · rw [cnt_yes h]
      exact ⟨fun _ => ⟨n, by omega, h⟩, fun _ => by omega⟩
    · rw [cnt_no h, ih]
      constructor
      · rintro ⟨k, hk, hq⟩
        exact ⟨k, by omega, hq⟩
      · rintro ⟨k, hk, hq⟩
        refine ⟨k, ?_, hq⟩
        rcases Nat.lt_or_ge k n with h1 | h1
        · exact h1
        · exact absurd (by rw [← show k = n by omega]; exact hq) h
/-- the first place below n with q, else n -/
def fst1 (q : Nat → Bool) : Nat → Nat
  | 0 => 0
  | n + 1 => if fst1 q n < n then fst1 q n else if q n then n else n + 1
theorem fst1_le (q : Nat → Bool) : ∀ n, fst1 q n ≤ n
  | 0 => Nat.le_refl 0
  | n + 1 => by
    have := fst1_le q n
    unfold fst1
    split
    · omega
    · split <;> omega
theorem fst1_no (q : Nat → Bool) : ∀ n k, k < fst1 q n → q k = false
  | 0, k, h => absurd h (Nat.not_lt_zero k)
  | n + 1, k, h => by
    have h2 := fst1_le q n
    unfold fst1 at h
    split at h
    · exact fst1_no q n k h
    · rename_i h1
      have e : fst1 q n = n := by omega
      split at h
      · exact fst1_no q n k (by omega)
      · rename_i h3
        rcases Nat.lt_or_ge k n with h4 | h4
        · exact fst1_no q n k (by omega)
        · rw [show k = n by omega]
          simpa using h3
theorem fst1_yes (q : Nat → Bool) : ∀ n, fst1 q n < n → q (fst1 q n) = true
  | 0, h => absurd h (Nat.not_lt_zero _)
  | n + 1, h => by
    by_cases h1 : fst1 q n < n
    · have e : fst1 q (n + 1) = fst1 q n := by rw [fst1, if_pos h1]
      rw [e]
      exact fst1_yes q n h1
    · by_cases h2 : q n = true
      · have e : fst1 q (n + 1) = n := by rw [fst1, if_neg h1, if_pos h2]
        rw [e]
        exact h2
      · have e : fst1 q (n + 1) = n + 1 := by rw [fst1, if_neg h1, if_neg h2]
        omega
/-- it is the first -/
theorem fst1_eq {q : Nat → Bool} {n k : Nat} (hk : k < n) (hq : q k = true) (hb : ∀ j, j < k → q j = false) : fst1 q n = k := by
  have h1 := fst1_no q n
  have h2 := fst1_yes q n
  have h3 := fst1_le q n
  rcases Nat.lt_trichotomy (fst1 q n) k with h | h | h
  · have := h2 (by omega)
    rw [hb _ h] at this
    cases this
  · exact h
  · have := h1 k h
    rw [hq] at this
    cases this
theorem fst1_none {q : Nat → Bool} {n : Nat} (hb : ∀ j, j < n → q j = false) : fst1 q n = n := by
  have h2 := fst1_yes q n
  have h3 := fst1_le q n
  rcases Nat.lt_or_ge (fst1 q n) n with h | h
  · have := h2 h
    rw [hb _ h] at this
    cases this
  · omega
theorem fst1_congr {q r : Nat → Bool} {n : Nat} (h : ∀ k, k < n → q k = r k) : fst1 q n = fst1 r n := by
  rcases Nat.lt_or_ge (fst1 r n) n with h1 | h1
  · refine fst1_eq h1 ?_ (fun j hj => ?_)
    · rw [h _ h1]
      exact fst1_yes r n h1
    · rw [h _ (by omega)]
      exact fst1_no r n j hj
  · have h2 := fst1_le r n
    rw [show fst1 r n = n by omega]
    exact fst1_none (fun j hj => by rw [h j hj]; exact fst1_no r n j (by omega))
/-- a Boolean as an int -/
def bI (b : Bool) : Int32 := if b then nI 1 else nI 0
/-- a row of n ints from o on in the thing h -/
def setr (w : Wo) (h o n : Nat) (f : Nat → Int32) : Wo := (fun a b => if a = h ∧ o ≤ b ∧ b < o + n then f (b - o) else w.1 a b, w.2)
theorem gI_setr {w : Wo} {h o n : Nat} {f : Nat → Int32} {a b : Nat} : gI (setr w h o n f) a b = if a = h ∧ o ≤ b ∧ b < o + n then f (b - o) else gI w a b := rfl
theorem gL_setr {w : Wo} {h o n : Nat} {f : Nat → Int32} {a b : Nat} : gL (setr w h o n f) a b = gL w a b := rfl
theorem gD_setr {w : Wo} {h o n : Nat} {f : Nat → Int32} {a b : Nat} : gD (setr w h o n f) a b = gD w a b := rfl
theorem gI_setr_ne {w : Wo} {h o n : Nat} {f : Nat → Int32} {a b : Nat} (ha : a ≠ h) : gI (setr w h o n f) a b = gI w a b := by rw [gI_setr, if_neg (fun q => ha q.1)]
theorem setr_0 {w : Wo} {h o : Nat} {f : Nat → Int32} : w = setr w h o 0 f := by
  obtain ⟨w1, w2⟩ := w
  unfold setr
  congr 1
  funext a b
  rw [if_neg (by omega)]
theorem setr_succ {w : Wo} {h o n m : Nat} {f : Nat → Int32} {v : Int32} (hm : m = o + n) (hv : v = f n) : pI (setr w h o n f) h m v = setr w h o (n + 1) f := by
  subst hm
  subst hv
  unfold setr pI
  congr 1
  funext a b
  dsimp only
  by_cases h1 : a = h ∧ b = o + n
  · obtain ⟨rfl, rfl⟩ := h1
    rw [if_pos ⟨rfl, rfl⟩, if_pos ⟨rfl, by omega, by omega⟩, Nat.add_sub_cancel_left]
  · rw [if_neg h1]
    by_cases h2 : a = h ∧ o ≤ b ∧ b < o + n
    · rw [if_pos h2, if_pos ⟨h2.1, h2.2.1, by omega⟩]
    · rw [if_neg h2, if_neg]
      rintro ⟨rfl, h3, h4⟩
      exact h2 ⟨rfl, h3, by have : b ≠ o + n := fun e => h1 ⟨rfl, e⟩; omega⟩
section ITE
variable {α : Type} {a b : Nat} {x y : α}
theorem iteq (ha : a < 2 ^ 31) (hb : b < 2 ^ 31) : (if nI a = nI b then x else y) = if a = b then x else y := by
  by_cases h : a = b
  · rw [if_pos h, if_pos ((nI_eq ha hb).mpr h)]
  · rw [if_neg h, if_neg (fun e => h ((nI_eq ha hb).mp e))]
theorem itle (ha : a < 2 ^ 31) (hb : b < 2 ^ 31) : (if nI a ≤ nI b then x else y) = if a ≤ b then x else y := by
  by_cases h : a ≤ b
  · rw [if_pos h, if_pos ((nI_leI ha hb).mpr h)]
  · rw [if_neg h, if_neg (fun e => h ((nI_leI ha hb).mp e))]
theorem itlt (ha : a < 2 ^ 31) (hb : b < 2 ^ 31) : (if nI a < nI b then x else y) = if a < b then x else y := by
  by_cases h : a < b
  · rw [if_pos h, if_pos ((nI_ltI ha hb).mpr h)]
  · rw [if_neg h, if_neg (fun e => h ((nI_ltI ha hb).mp e))]
theorem itb0 {v : Bool} : (if bI v = 0 then x else y) = if v = true then y else x := by
  cases v <;> rfl
theorem itb1 {v : Bool} : (if bI v = 1 then x else y) = if v = true then x else y := by
  cases v <;> rfl
theorem itm1 (ha : a < 2 ^ 31) : (if nI a = -1 then x else y) = y := by
  rw [if_neg]
  intro e
  have := nI_m1 ha
  rw [e] at this
  simp at this
end ITE
