/-! PARITY: rows out of order, by pairs and by cycles -/
def xr (u : Nat → Bool) : Nat → Bool
  | 0 => false
  | n + 1 => xr u n ^^ u n
theorem xr_congr {u v : Nat → Bool} : ∀ {n : Nat}, (∀ k, k < n → u k = v k) → xr u n = xr v n
  | 0, _ => rfl
  | n + 1, h => by
    unfold xr
    rw [xr_congr (fun k hk => h k (by omega)), h n (by omega)]
theorem xr_false {u : Nat → Bool} : ∀ {n : Nat}, (∀ k, k < n → u k = false) → xr u n = false
  | 0, _ => rfl
  | n + 1, h => by
    unfold xr
    rw [xr_false (fun k hk => h k (by omega)), h n (by omega)]
    rfl
theorem xr_xor (u v : Nat → Bool) : ∀ n, xr (fun k => u k ^^ v k) n = (xr u n ^^ xr v n)
  | 0 => rfl
  | n + 1 => by
    unfold xr
    rw [xr_xor u v n]
    generalize xr u n = a
    generalize xr v n = b
    generalize u n = c
    generalize v n = d
    cases a <;> cases b <;> cases c <;> cases d <;> rfl
/-- two places exchanged -/
def sw (a b : Nat) : Nat → Nat := fun x => if x = a then b else if x = b then a else x
def Inj (f : Nat → Nat) (n : Nat) : Prop := ∀ p, p < n → ∀ q, q < n → f p = f q → p = q
def Rr (f : Nat → Nat) (q : Nat) : Bool := xr (fun p => decide (f q < f p)) q
def E (f : Nat → Nat) (n : Nat) : Bool := xr (Rr f) n
theorem E_congr {f g : Nat → Nat} {n : Nat} (h : ∀ p, p < n → f p = g p) : E f n = E g n := by
  unfold E
  refine xr_congr (fun q hq => ?_)
  unfold Rr
  refine xr_congr (fun p hp => ?_)
  rw [h q hq, h p (by omega)]
theorem E_id {f : Nat → Nat} {n : Nat} (h : ∀ p, p < n → f p = p) : E f n = false := by
  unfold E
  refine xr_false (fun q hq => ?_)
  unfold Rr
  refine xr_false (fun p hp => ?_)
  rw [h q hq, h p (by omega)]
  exact decide_eq_false (by omega)
theorem sw_lt {a b n x : Nat} (ha : a < n) (hb : b < n) (hx : x < n) : sw a b x < n := by
  unfold sw
  split
  · exact hb
  · split
    · exact ha
    · exact hx
theorem sw_sw {a b x : Nat} : sw a b (sw a b x) = x := by
  unfold sw
  by_cases h1 : x = a
  · rw [if_pos h1]
    by_cases h2 : b = a
    · rw [if_pos h2, h1, h2]
    · rw [if_neg h2, if_pos rfl, h1]
  · rw [if_neg h1]
    by_cases h2 : x = b
    · rw [if_pos h2, if_pos rfl, h2]
    · rw [if_neg h2, if_neg h1, if_neg h2]
theorem Inj.sw {f : Nat → Nat} {n a b : Nat} (h : Inj f n) (ha : a < n) (hb : b < n) : Inj (fun x => f (sw a b x)) n := by
  intro p hp q hq e
  have := h _ (sw_lt ha hb hp) _ (sw_lt ha hb hq) e
  rw [← sw_sw (a := a) (b := b) (x := p), this, sw_sw]
theorem xr_sw {u : Nat → Bool} {a : Nat} : ∀ d, xr (fun p => u (sw a (a + 1) p)) (a + 2 + d) = xr u (a + 2 + d)
  | 0 => by
    have e0 : xr (fun p => u (sw a (a + 1) p)) a = xr u a := xr_congr (fun k hk => by unfold sw; rw [if_neg (by omega), if_neg (by omega)])
    show xr (fun p => u (sw a (a + 1) p)) (a + 1 + 1) = xr u (a + 1 + 1)
    unfold xr
    unfold xr
    rw [e0]
    have e1 : sw a (a + 1) a = a + 1 := by unfold sw; rw [if_pos rfl]
    have e2 : sw a (a + 1) (a + 1) = a := by unfold sw; rw [if_neg (by omega), if_pos rfl]
    rw [e1, e2]
    generalize xr u a = x
    generalize u a = y
    generalize u (a + 1) = z
    cases x <;> cases y <;> cases z <;> rfl
  | d + 1 => by
    show xr (fun p => u (sw a (a + 1) p)) (a + 2 + d + 1) = xr u (a + 2 + d + 1)
    unfold xr
    rw [xr_sw d]
    have e : sw a (a + 1) (a + 2 + d) = a + 2 + d := by unfold sw; rw [if_neg (by omega), if_neg (by omega)]
    rw [e]
theorem E_adj {f : Nat → Nat} {a : Nat} (hne : f a ≠ f (a + 1)) : ∀ d, E (fun x => f (sw a (a + 1) x)) (a + 2 + d) = !E f (a + 2 + d)
  | 0 => by
    have e1 : sw a (a + 1) a = a + 1 := by unfold sw; rw [if_pos rfl]
    have e2 : sw a (a + 1) (a + 1) = a := by unfold sw; rw [if_neg (by omega), if_pos rfl]
    have e3 : ∀ k, k < a → sw a (a + 1) k = k := fun k hk => by unfold sw; rw [if_neg (by omega), if_neg (by omega)]
    have r0 : xr (Rr (fun x => f (sw a (a + 1) x))) a = xr (Rr f) a := xr_congr (fun q hq => by
      unfold Rr
      refine xr_congr (fun p hp => ?_)
      show decide (f (sw a (a + 1) q) < f (sw a (a + 1) p)) = _
      rw [e3 q hq, e3 p (by omega)])
    have r1 : Rr (fun x => f (sw a (a + 1) x)) a = xr (fun p => decide (f (a + 1) < f p)) a := by
      unfold Rr
      refine xr_congr (fun p hp => ?_)
      show decide (f (sw a (a + 1) a) < f (sw a (a + 1) p)) = _
      rw [e1, e3 p hp]
    have r2 : Rr (fun x => f (sw a (a + 1) x)) (a + 1) = (xr (fun p => decide (f a < f p)) a ^^ decide (f a < f (a + 1))) := by
      show (xr (fun p => decide (f (sw a (a + 1) (a + 1)) < f (sw a (a + 1) p))) a ^^ decide (f (sw a (a + 1) (a + 1)) < f (sw a (a + 1) a))) = _
      rw [e1, e2]
      congr 1
      refine xr_congr (fun p hp => ?_)
      rw [e3 p hp]
    have r3 : Rr f (a + 1) = (xr (fun p => decide (f (a + 1) < f p)) a ^^ decide (f (a + 1) < f a)) := rfl
    have r4 : Rr f a = xr (fun p => decide (f a < f p)) a := rfl
    show ((xr (Rr (fun x => f (sw a (a + 1) x))) a ^^ Rr (fun x => f (sw a (a + 1) x)) a) ^^ Rr (fun x => f (sw a (a + 1) x)) (a + 1)) = !((xr (Rr f) a ^^ Rr f a) ^^ Rr f (a + 1))
    rw [r0, r1, r2, r3, r4]
    have hd : decide (f a < f (a + 1)) = !decide (f (a + 1) < f a) := by
      by_cases h : f a < f (a + 1)
      · rw [decide_eq_true h, decide_eq_false (by omega)]
        rfl
      · rw [decide_eq_false h, decide_eq_true (by omega)]
        rfl
    rw [hd]
    generalize xr (Rr f) a = x
    generalize xr (fun p => decide (f (a + 1) < f p)) a = y
    generalize xr (fun p => decide (f a < f p)) a = z
    generalize decide (f (a + 1) < f a) = v
    cases x <;> cases y <;> cases z <;> cases v <;> rfl
  | d + 1 => by
    show (E (fun x => f (sw a (a + 1) x)) (a + 2 + d) ^^ Rr (fun x => f (sw a (a + 1) x)) (a + 2 + d)) = !(E f (a + 2 + d) ^^ Rr f (a + 2 + d))
    rw [E_adj hne d]
    have e : sw a (a + 1) (a + 2 + d) = a + 2 + d := by unfold sw; rw [if_neg (by omega), if_neg (by omega)]
    have r : Rr (fun x => f (sw a (a + 1) x)) (a + 2 + d) = Rr f (a + 2 + d) := by
      show xr (fun p => decide (f (sw a (a + 1) (a + 2 + d)) < f (sw a (a + 1) p))) (a + 2 + d) = _
      rw [e]
      exact xr_sw (u := fun p => decide (f (a + 2 + d) < f p)) d
    rw [r]
    generalize E f (a + 2 + d) = x
    generalize Rr f (a + 2 + d) = y
    cases x <;> cases y <;> rfl
theorem E_adj' {f : Nat → Nat} {a n : Nat} (hf : Inj f n) (ha : a + 1 < n) : E (fun x => f (sw a (a + 1) x)) n = !E f n := by
  obtain ⟨d, rfl⟩ : ∃ d, n = a + 2 + d := ⟨n - (a + 2), by omega⟩
  exact E_adj (fun e => by have := hf a (by omega) (a + 1) (by omega) e; omega) d
theorem E_swap {n a : Nat} : ∀ (d : Nat) (f : Nat → Nat), Inj f n → a + 1 + d < n → E (fun x => f (sw a (a + 1 + d) x)) n = !E f n
  | 0, f, hf, hb => E_adj' hf hb
  | d + 1, f, hf, hb => by
    have h1 := E_adj' (a := a + 1 + d) hf (by omega)
    have i1 := hf.sw (a := a + 1 + d) (b := a + 1 + d + 1) (by omega) (by omega)
    have h2 := E_swap (a := a) d _ i1 (by omega)
    have i2 := i1.sw (a := a) (b := a + 1 + d) (by omega) (by omega)
    have h3 := E_adj' (a := a + 1 + d) i2 (by omega)
    rw [h2, h1] at h3
    have e : ∀ x, sw (a + 1 + d) (a + 1 + d + 1) (sw a (a + 1 + d) (sw (a + 1 + d) (a + 1 + d + 1) x)) = sw a (a + 1 + (d + 1)) x := by
      intro x
      unfold sw
      repeat' split
      all_goals omega
    have h4 : E (fun x => f (sw a (a + 1 + (d + 1)) x)) n = E (fun x => f (sw (a + 1 + d) (a + 1 + d + 1) (sw a (a + 1 + d) (sw (a + 1 + d) (a + 1 + d + 1) x)))) n := E_congr (fun p _ => by rw [e])
    rw [h4, h3, Bool.not_not]
theorem E_sw {f : Nat → Nat} {n a b : Nat} (hf : Inj f n) (hab : a < b) (hb : b < n) : E (fun x => f (sw a b x)) n = !E f n := by
  obtain ⟨d, rfl⟩ : ∃ d, b = a + 1 + d := ⟨b - (a + 1), by omega⟩
  exact E_swap d f hf hb
theorem E_sw' {f : Nat → Nat} {n a b : Nat} (hf : Inj f n) (hab : a ≠ b) (ha : a < n) (hb : b < n) : E (fun x => f (sw a b x)) n = !E f n := by
  rcases Nat.lt_or_gt_of_ne hab with h | h
  · exact E_sw hf h hb
  · have e : ∀ x, sw a b x = sw b a x := by
      intro x
      unfold sw
      repeat' split
      all_goals omega
    rw [E_congr (g := fun x => f (sw b a x)) (fun p _ => by rw [e])]
    exact E_sw hf h ha
/-- the way back has the same parity -/
theorem E_inv {s t : Nat → Nat} {n : Nat} (hs : ∀ p, p < n → s p < n) (ht : ∀ p, p < n → t p < n) (h1 : ∀ p, p < n → t (s p) = p) (h2 : ∀ p, p < n → s (t p) = p) : E t n = E s n := by
  have is : Inj s n := fun p hp q hq e => by rw [← h1 p hp, ← h1 q hq, e]
  have key : ∀ k, k ≤ n → ∃ g h : Nat → Nat, Inj g n ∧ Inj h n ∧ (∀ x, x < n → g x < n) ∧ (∀ x, x < n → h x < n) ∧ (∀ y, y < n → ∃ x, x < n ∧ g x = y) ∧ (∀ x, x < n → s (h x) = g x) ∧ (E g n ^^ E h n) = E s n ∧ ∀ p, p < k → g p = p := by
    intro k
    induction k with
    | zero =>
      intro _
      refine ⟨s, fun x => x, is, fun p _ q _ e => e, hs, fun x hx => hx, fun y hy => ⟨t y, ht y hy, h2 y hy⟩, fun x _ => rfl, ?_, fun p hp => absurd hp (Nat.not_lt_zero p)⟩
      rw [E_id (f := fun x => x) (fun p _ => rfl), Bool.xor_false]
    | succ k ih =>
      intro hk
      obtain ⟨g, h, ig, ih2, rg, rh, sg, e1, e2, e3⟩ := ih (by omega)
      obtain ⟨b, hb, eb⟩ := sg k (by omega)
      by_cases hbk : b = k
      · refine ⟨g, h, ig, ih2, rg, rh, sg, e1, e2, fun p hp => ?_⟩
        rcases Nat.lt_or_ge p k with h4 | h4
        · exact e3 p h4
        · rw [show p = k by omega, ← hbk, eb, hbk]
      · refine ⟨fun x => g (sw k b x), fun x => h (sw k b x), ig.sw (by omega) hb, ih2.sw (by omega) hb, fun x hx => rg _ (sw_lt (by omega) hb hx), fun x hx => rh _ (sw_lt (by omega) hb hx), fun y hy => ?_, fun x hx => e1 _ (sw_lt (by omega) hb hx), ?_, fun p hp => ?_⟩
        · obtain ⟨x, hx, ex⟩ := sg y hy
          exact ⟨sw k b x, sw_lt (by omega) hb hx, by show g (sw k b (sw k b x)) = y; rw [sw_sw]; exact ex⟩
        · rw [E_sw' ig (Ne.symm hbk) (by omega) hb, E_sw' ih2 (Ne.symm hbk) (by omega) hb, ← e2]
          generalize E g n = x
          generalize E h n = y
          cases x <;> cases y <;> rfl
        · have hkb : k ≤ b := by
            rcases Nat.lt_or_ge b k with h4 | h4
            · have := e3 b h4
              omega
            · exact h4
          show g (sw k b p) = p
          unfold sw
          by_cases hp2 : p = k
          · rw [if_pos hp2, eb, hp2]
          · rw [if_neg hp2, if_neg (by omega)]
            exact e3 p (by omega)
  obtain ⟨g, h, -, -, rg, rh, -, e1, e2, e3⟩ := key n (Nat.le_refl n)
  rw [E_id e3, Bool.false_xor] at e2
  rw [← e2]
  refine E_congr (fun p hp => ?_)
  have := e1 p hp
  rw [e3 p hp] at this
  have h5 := h1 (h p) (rh p hp)
  rw [this] at h5
  exact h5
/-- by pairs, the other way round -/
theorem E_rows (f : Nat → Nat) : ∀ n, xr (fun p => xr (fun j => decide (f (p + 1 + j) < f p)) (n - (p + 1))) n = E f n
  | 0 => rfl
  | n + 1 => by
    have e : xr (fun p => xr (fun j => decide (f (p + 1 + j) < f p)) (n + 1 - (p + 1))) n = xr (fun p => xr (fun j => decide (f (p + 1 + j) < f p)) (n - (p + 1)) ^^ decide (f n < f p)) n := by
      refine xr_congr (fun p hp => ?_)
      rw [show n + 1 - (p + 1) = (n - (p + 1)) + 1 by omega]
      show (xr _ (n - (p + 1)) ^^ decide (f (p + 1 + (n - (p + 1))) < f p)) = _
      rw [show p + 1 + (n - (p + 1)) = n by omega]
    show (xr (fun p => xr (fun j => decide (f (p + 1 + j) < f p)) (n + 1 - (p + 1))) n ^^ xr (fun j => decide (f (n + 1 + j) < f n)) (n + 1 - (n + 1))) = (E f n ^^ Rr f n)
    rw [e, xr_xor, E_rows f n, Nat.sub_self]
    show ((E f n ^^ Rr f n) ^^ false) = _
    rw [Bool.xor_false]
theorem cnt_add {q r : Nat → Bool} {j : Nat} (hq : q j = false) (hr : r j = true) (ho : ∀ p, p ≠ j → r p = q p) : ∀ n, j < n → cnt r n = cnt q n + 1
  | 0, h => absurd h (Nat.not_lt_zero j)
  | n + 1, h => by
    by_cases e : j = n
    · subst e
      rw [cnt_yes hr, cnt_no (by rw [hq]; decide), cnt_congr (fun k hk => ho k (by omega))]
    · have ih := cnt_add hq hr ho n (by omega)
      by_cases h2 : q n = true
      · rw [cnt_yes h2, cnt_yes (by rw [ho n (Ne.symm e)]; exact h2), ih]
      · rw [cnt_no h2, cnt_no (by rw [ho n (Ne.symm e)]; exact h2), ih]
