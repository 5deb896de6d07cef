/-! AWAY, FIRSTTURN -/
theorem CI.kd {w w' : Wo} {A : Abs} {D : List Nat} (h : CI w A) (hk : Kd D w w') (hD : ∀ a, a ∈ cD → a ∉ D) : CI w' A := CI_cg (fun a ha b => hk a b (hD a ha)) h
theorem c_halves {w : Wo} {B : Bd} (hB : B.ok) (hC : CB w 1 B) : ∃ w', F_X5_fewestByHalves w = some (nI (shl B B.cell), w') ∧ Kd [14, 15, 16, 17, 18] w w' := by
  obtain ⟨w', h1, h2, h3, h4⟩ := c_search hB hC
  refine ⟨w', ?_, h2⟩
  unfold F_X5_fewestByHalves
  rw [h1, Option.bind_some, h3]
theorem c_away {w : Wo} {B : Bd} (hB : B.ok) (hC : CB w 1 B) (y : Int32) : ∃ w', F_X5_away w y = (if shl B B.cell = 4 then some (.inl (4, w')) else some (.inr (nI (shl B B.cell), w'))) ∧ Kd [14, 15, 16, 17, 18] w w' := by
  have hl := shl_le B B.cell
  have h15 : ∀ u, B_X5_away_15 u (nI (shl B B.cell)) = (if shl B B.cell = 4 then some (.inl (4, u)) else some (.inr (nI (shl B B.cell), u))) := by
    intro u
    unfold B_X5_away_15
    rw [L3, itle (by omega) (by omega)]
    by_cases h : shl B B.cell = 4
    · rw [if_pos h, if_neg (by omega)]
    · rw [if_neg h, if_pos (by omega)]
  unfold F_X5_away
  by_cases hy : y = 0
  · obtain ⟨w', h1, h2⟩ := c_halves hB hC
    rw [if_pos hy, h1, Option.bind_some]
    exact ⟨w', h15 w', h2⟩
  · rw [if_neg hy, c_byAll hB hC, Option.bind_some]
    exact ⟨w, h15 w, Kd.rf⟩
/-! counting letters -/
theorem sumN_le {f g : Nat → Nat} : ∀ {n : Nat}, (∀ v, v < n → g v ≤ f v) → sumN g n ≤ sumN f n
  | 0, _ => Nat.le_refl 0
  | n + 1, h => by
    have ih := sumN_le (f := f) (g := g) (n := n) (fun v hv => h v (by omega))
    have := h n (by omega)
    unfold sumN
    omega
theorem sumN_eq {f g : Nat → Nat} : ∀ {n : Nat}, (∀ v, v < n → g v ≤ f v) → sumN f n = sumN g n → ∀ v, v < n → f v = g v
  | 0, _, _, v, hv => absurd hv (Nat.not_lt_zero v)
  | n + 1, h, he, v, hv => by
    have h1 := sumN_le (f := f) (g := g) (n := n) (fun v hv => h v (by omega))
    have h2 := h n (by omega)
    unfold sumN at he
    rcases Nat.lt_or_ge v n with h3 | h3
    · exact sumN_eq (n := n) (fun v hv => h v (by omega)) (by omega) v h3
    · rw [show v = n by omega]
      omega
theorem sumN_add (f g : Nat → Nat) : ∀ n, sumN (fun v => f v + g v) n = sumN f n + sumN g n
  | 0 => rfl
  | n + 1 => by
    have ih := sumN_add f g n
    unfold sumN
    rw [ih]
    omega
theorem sumN_cg {f g : Nat → Nat} : ∀ {n : Nat}, (∀ v, v < n → f v = g v) → sumN f n = sumN g n
  | 0, _ => rfl
  | n + 1, h => by
    unfold sumN
    rw [sumN_cg (fun v hv => h v (by omega)), h n (by omega)]
theorem sumN_0 : ∀ n, sumN (fun _ => 0) n = 0
  | 0 => rfl
  | n + 1 => by
    unfold sumN
    rw [sumN_0 n]
theorem sumN_one {c : Nat} : ∀ {n : Nat}, c < n → sumN (fun v => if c == v then 1 else 0) n = 1
  | 0, h => absurd h (Nat.not_lt_zero c)
  | n + 1, h => by
    unfold sumN
    rcases Nat.lt_or_ge c n with h1 | h1
    · rw [sumN_one h1, if_neg (by simp; omega)]
    · have e : c = n := by omega
      have e0 : sumN (fun v => if c == v then 1 else 0) n = 0 := by
        rw [sumN_cg (g := fun _ => 0) (fun v hv => by rw [if_neg (by simp; omega)]), sumN_0]
      rw [e0, if_pos (by simp [e])]
theorem sum_times {f : Nat → Nat} {N : Nat} : ∀ {n : Nat}, (∀ p, p < n → f p < N) → sumN (times f n) N = n
  | 0, _ => by
    have : ∀ v, times f 0 v = 0 := fun _ => rfl
    rw [sumN_cg (g := fun _ => 0) (fun v _ => this v), sumN_0]
  | n + 1, h => by
    have ih := sum_times (f := f) (N := N) (n := n) (fun p hp => h p (by omega))
    have e : ∀ v, times f (n + 1) v = times f n v + (if f n == v then 1 else 0) := fun _ => rfl
    rw [sumN_cg (g := fun v => times f n v + (if f n == v then 1 else 0)) (fun v _ => e v), sumN_add, ih, sumN_one (h n (by omega))]
theorem cnt_sum (q : Nat → Bool) : ∀ n, cnt q n = sumN (fun v => if q v then 1 else 0) n
  | 0 => rfl
  | n + 1 => by
    unfold cnt sumN
    rw [cnt_sum q n]
theorem un_times {B : Bd} (hB : B.ok) (hu : unlike B = B.n) : ∀ v, v < 12 → times B.cell B.n v ≤ 1 := by
  intro v hv
  have h1 := sum_times hB.2.2.1
  have h2 : sumN (fun v => if decide (0 < times B.cell B.n v) then 1 else 0) 12 = B.n := by
    rw [← cnt_sum]
    exact hu
  have h3 := sumN_eq (f := times B.cell B.n) (g := fun v => if decide (0 < times B.cell B.n v) then 1 else 0) (n := 12) (fun v _ => by
    by_cases h : 0 < times B.cell B.n v
    · rw [if_pos (decide_eq_true h)]
      exact h
    · rw [if_neg (by simpa using h)]
      exact Nat.zero_le _) (by rw [h1, h2]) v hv
  rw [h3]
  split <;> omega
theorem times_pos {f : Nat → Nat} {n p : Nat} (hp : p < n) : 0 < times f n (f p) := cnt_pos.mpr ⟨p, hp, by simp⟩
theorem un_inj {B : Bd} (hB : B.ok) (hu : unlike B = B.n) : Inj B.cell B.n := by
  intro p hp q hq e
  have h1 := un_times hB hu _ (hB.2.2.1 p hp)
  have h2 := times_pos (f := B.cell) hp
  have h3 : cnt (fun q => B.cell q == B.cell p) B.n = 1 := by
    unfold times at h1 h2
    omega
  exact cnt_one h3 hp hq (by simp) (by simp [e])
/-- a map of places that never meets itself leaves none out -/
theorem pigeon : ∀ {n : Nat} {f : Nat → Nat}, (∀ p, p < n → f p < n) → Inj f n → ∀ y, y < n → ∃ x, x < n ∧ f x = y
  | 0, _, _, _, y, hy => absurd hy (Nat.not_lt_zero y)
  | n + 1, f, hf, hi, y, hy => by
    have hn := hf n (by omega)
    have h1 : ∀ p, p < n → sw n (f n) (f p) < n := by
      intro p hp
      have h2 := hf p (by omega)
      have h3 : f p ≠ f n := fun e => by have := hi p (by omega) n (by omega) e; omega
      unfold sw
      by_cases h4 : f p = n
      · rw [if_pos h4]
        rcases Nat.lt_or_ge (f n) n with h5 | h5
        · exact h5
        · exact absurd (show f p = f n by omega) h3
      · rw [if_neg h4, if_neg h3]
        omega
    have h2 : Inj (fun p => sw n (f n) (f p)) n := by
      intro p hp q hq e
      have e : sw n (f n) (f p) = sw n (f n) (f q) := e
      have e2 : f p = f q := by
        rw [← sw_sw (a := n) (b := f n) (x := f p), e, sw_sw]
      exact hi p (by omega) q (by omega) e2
    have h3 := pigeon (n := n) (f := fun p => sw n (f n) (f p)) h1 h2
    by_cases e : y = f n
    · exact ⟨n, by omega, e.symm⟩
    · have hz : sw n (f n) y < n := by
        unfold sw
        by_cases h4 : y = n
        · rw [if_pos h4]
          rcases Nat.lt_or_ge (f n) n with h5 | h5
          · exact h5
          · exact absurd (show y = f n by omega) e
        · rw [if_neg h4, if_neg e]
          omega
      obtain ⟨x, hx, ex⟩ := h3 _ hz
      refine ⟨x, by omega, ?_⟩
      have := congrArg (sw n (f n)) ex
      rw [sw_sw, sw_sw] at this
      exact this
theorem cnt_le_on {a b : Nat → Bool} : ∀ {n : Nat}, (∀ k, k < n → a k = true → b k = true) → cnt a n ≤ cnt b n
  | 0, _ => Nat.le_refl 0
  | n + 1, h => by
    have ih := cnt_le_on (a := a) (b := b) (n := n) (fun k hk => h k (by omega))
    have hn := h n (by omega)
    unfold cnt
    cases ha : a n
    · simp
      omega
    · rw [hn ha]
      simp
      omega
theorem cnt_sw {q : Nat → Bool} {n a b : Nat} (ha : a < n) (hb : b < n) : cnt (fun x => q (sw a b x)) n = cnt q n := by
  have ea : sw a b a = b := by unfold sw; rw [if_pos rfl]
  have eb : sw a b b = a := by
    unfold sw
    by_cases h : b = a
    · rw [if_pos h, h]
    · rw [if_neg h, if_pos rfl]
  have eo : ∀ x, x ≠ a → x ≠ b → sw a b x = x := fun x h1 h2 => by unfold sw; rw [if_neg h1, if_neg h2]
  by_cases he : q a = q b
  · refine cnt_congr (fun k _ => ?_)
    by_cases h1 : k = a
    · rw [h1, ea, he]
    · by_cases h2 : k = b
      · rw [h2, eb, he]
      · rw [eo k h1 h2]
  · have hab : a ≠ b := fun e => he (by rw [e])
    have gen : ∀ (r : Nat → Bool) (i j : Nat), i < n → j < n → i ≠ j → r i = true → r j = false → ∀ r' : Nat → Bool, r' i = false → r' j = true → (∀ x, x ≠ i → x ≠ j → r' x = r x) → cnt r' n = cnt r n := by
      intro r i j hi hj hij h1 h2 r' h3 h4 h5
      have c1 := cnt_add (q := fun x => if x = i then false else r x) (r := r) (j := i) (by simp) h1 (fun p hp => by simp [hp]) n hi
      have c2 := cnt_add (q := fun x => if x = i then false else r x) (r := r') (j := j) (by
        show (if j = i then false else r j) = false
        rw [if_neg (Ne.symm hij)]
        exact h2) h4 (fun p hp => by
        show r' p = if p = i then false else r p
        by_cases e : p = i
        · rw [if_pos e, e, h3]
        · rw [if_neg e, h5 p e hp]) n hj
      omega
    cases hqa : q a with
    | true =>
      have hqb : q b = false := by
        cases h : q b
        · rfl
        · exact absurd (hqa.trans h.symm) he
      exact gen q a b ha hb hab hqa hqb _ (by show q (sw a b a) = false; rw [ea, hqb]) (by show q (sw a b b) = true; rw [eb, hqa]) (fun x h1 h2 => by show q (sw a b x) = q x; rw [eo x h1 h2])
    | false =>
      have hqb : q b = true := by
        cases h : q b
        · exact absurd (hqa.trans h.symm) he
        · rfl
      exact gen q b a hb ha (Ne.symm hab) hqb hqa _ (by show q (sw a b b) = false; rw [eb, hqa]) (by show q (sw a b a) = true; rw [ea, hqb]) (fun x h1 h2 => by show q (sw a b x) = q x; rw [eo x h2 h1])
/-- a turn is two exchanges of places -/
def xa (r c t : Nat) : Nat := if (if t / 2 < r then c else r) = 3 ∧ t % 2 = 0 then pl r c (t / 2) 1 else pl r c (t / 2) 0
def xb (r c t : Nat) : Nat := if (if t / 2 < r then c else r) = 3 then pl r c (t / 2) 2 else pl r c (t / 2) 0
theorem bk_sw {B : Bd} (hB : B.ok) : ∀ t, t < 2 * (B.r + B.c) → (xa B.r B.c t < B.r * B.c ∧ xb B.r B.c t < B.r * B.c ∧ pl B.r B.c (t / 2) 0 < B.r * B.c ∧ pl B.r B.c (t / 2) 1 < B.r * B.c) ∧ (B.r * B.c = 9 → xa B.r B.c t ≠ xb B.r B.c t ∧ pl B.r B.c (t / 2) 0 ≠ pl B.r B.c (t / 2) 1) ∧ ∀ x, x < B.r * B.c → bk B.r B.c x t = sw (xa B.r B.c t) (xb B.r B.c t) (sw (pl B.r B.c (t / 2) 0) (pl B.r B.c (t / 2) 1) x) :=
  dim4 (Q := fun r c => ∀ t, t < 2 * (r + c) → (xa r c t < r * c ∧ xb r c t < r * c ∧ pl r c (t / 2) 0 < r * c ∧ pl r c (t / 2) 1 < r * c) ∧ (r * c = 9 → xa r c t ≠ xb r c t ∧ pl r c (t / 2) 0 ≠ pl r c (t / 2) 1) ∧ ∀ x, x < r * c → bk r c x t = sw (xa r c t) (xb r c t) (sw (pl r c (t / 2) 0) (pl r c (t / 2) 1) x)) hB (by decide +kernel) (by decide +kernel) (by decide +kernel) (by decide +kernel)
theorem times_tn {B : Bd} (hB : B.ok) {t : Nat} (ht : t < Tn B) (f : Nat → Nat) (v : Nat) : times (tn B t f) B.n v = times f B.n v := by
  obtain ⟨⟨h1, h2, h3, h4⟩, -, h5⟩ := bk_sw hB t ht
  unfold times
  rw [cnt_congr (r := fun p => (fun y => (fun z => f z == v) (sw (xa B.r B.c t) (xb B.r B.c t) y)) (sw (pl B.r B.c (t / 2) 0) (pl B.r B.c (t / 2) 1) p)) (fun p hp => by
    show (f (bk B.r B.c p t) == v) = (f (sw (xa B.r B.c t) (xb B.r B.c t) (sw (pl B.r B.c (t / 2) 0) (pl B.r B.c (t / 2) 1) p)) == v)
    rw [h5 p hp])]
  exact (cnt_sw (n := B.n) (q := fun y => (fun z => f z == v) (sw (xa B.r B.c t) (xb B.r B.c t) y)) h3 h4).trans (cnt_sw (n := B.n) (q := fun z => f z == v) h1 h2)
