/-! THE TWO PARITIES OF THE CLASS -/
section CPa
variable {w : Wo} {B : Bd} {x : Int64} {s : Nat → Nat}
theorem c_pairs (hB : B.ok) (hC : CB w 1 B) (hp : ∀ p, p < B.n → F_X0_placeOf w x (F_X5_codeAt (gL w 1 2) (nI p)) = some (nI (s p))) (hs : ∀ p, p < B.n → s p < B.n) : F_X0_isOddByPairs w x = some (bI (E s B.n)) := by
  have hd := dims hB
  unfold F_X0_isOddByPairs
  rw [← E_rows]
  refine jl2_run (fun k => bI (xr (fun p => xr (fun j => decide (s (p + 1 + j) < s p)) (B.n - (p + 1))) k)) (fun k => nI k) B.n (by rw [fu4]; omega) (fun k hk K => ?_) (fun K => ?_) rfl rfl
  · unfold B_X0_isOddByPairs_5
    rw [c_places hB hC, if_neg (nI_ge hk (by omega)), hp k hk, Option.bind_some]
    generalize hz : xr (fun p => xr (fun j => decide (s (p + 1 + j) < s p)) (B.n - (p + 1))) k = z
    have hz2 : xr (fun p => xr (fun j => decide (s (p + 1 + j) < s p)) (B.n - (p + 1))) (k + 1) = (z ^^ xr (fun j => decide (s (k + 1 + j) < s k)) (B.n - (k + 1))) := by rw [← hz]; rfl
    rw [hz2]
    refine jl2_run (fun j => bI (z ^^ xr (fun j => decide (s (k + 1 + j) < s k)) j)) (fun j => nI (k + 1 + j)) (B.n - (k + 1)) (by rw [fu4]; omega) (fun j hj K2 => ?_) (fun K2 => ?_) (by simp [xr]) (nI_succ k).symm
    · have h1 := hs (k + 1 + j) (by omega)
      have h2 := hs k hk
      unfold B_X0_isOddByPairs_36 B_X0_isOddByPairs_73 B_X0_isOddByPairs_74
      rw [c_places hB hC, if_neg (nI_ge (by omega) (by omega)), hp _ (by omega), Option.bind_some, itle (by omega) (by omega), itb0, xr, show k + 1 + (j + 1) = (k + 1 + j) + 1 by omega, nI_succ (k + 1 + j)]
      generalize (xr (fun j => decide (s (k + 1 + j) < s k)) j) = y
      by_cases h : s k ≤ s (k + 1 + j)
      · rw [if_pos h, decide_eq_false (by omega), Bool.xor_false]
      · rw [if_neg h, decide_eq_true (by omega)]
        cases z <;> cases y <;> rfl
    · unfold B_X0_isOddByPairs_36 B_X0_isOddByPairs_80
      rw [c_places hB hC, if_pos (nI_le (by omega) (by omega)), nI_succ]
  · unfold B_X0_isOddByPairs_5
    rw [c_places hB hC, if_pos (nI_le (Nat.le_refl _) (by omega)), jchk_pos (bI_or _)]
/-! the set of places seen, as bits -/
theorem bit_get : ∀ N, N < 512 → ∀ p, p < 9 → (jshr (nI N) (nI p) &&& 1 = 0 ↔ N.testBit p = false) := by decide +kernel
theorem bit_set : ∀ N, N < 512 → ∀ p, p < 9 → (nI N ||| jshl 1 (nI p)) = nI (N ||| 2 ^ p) := by decide +kernel
theorem bit_lt {N p : Nat} (hN : N < 512) (hp : p < 9) : N ||| 2 ^ p < 512 := Nat.or_lt_two_pow (n := 9) hN (Nat.pow_lt_pow_right (by decide) hp)
theorem bit_or {N p q : Nat} : (N ||| 2 ^ p).testBit q = (N.testBit q || decide (p = q)) := by rw [Nat.testBit_or, Nat.testBit_two_pow]
/-- how far the walk is: g with what is seen put right -/
def Cyc (s : Nat → Nat) (n N cyc : Nat) (g : Nat → Nat) : Prop := N < 512 ∧ Inj g n ∧ (∀ p, p < n → g p < n) ∧ (∀ p, p < n → N.testBit p = false → g p = s p) ∧ cyc ≤ cnt (fun p => N.testBit p) n ∧ (E g n ^^ decide ((cnt (fun p => N.testBit p) n + cyc) % 2 = 1)) = E s n
theorem odd_succ (a : Nat) : decide ((a + 1) % 2 = 1) = !decide (a % 2 = 1) := by
  by_cases h : a % 2 = 1
  · rw [decide_eq_true h, decide_eq_false (by omega)]
    rfl
  · rw [decide_eq_false h, decide_eq_true (by omega)]
    rfl
/-- the walk along a cycle, from its second place on -/
theorem cyc_in (hB : B.ok) (hC : CB w 1 B) (hp : ∀ p, p < B.n → F_X0_placeOf w x (F_X5_codeAt (gL w 1 2) (nI p)) = some (nI (s p))) (hs : ∀ p, p < B.n → s p < B.n) (K : Int32 → Int32 → Int32 → Option Int32) (x4 x5 : Int32) {a : Nat} (ha : a < B.n) {cyc : Nat} :
    ∀ (d i N q : Nat) (g : Nat → Nat) (F : Nat), i + d = B.n → d < F → Cyc s B.n N cyc g → N.testBit a = true → q < B.n → g a = q → (∀ p, p < B.n → p ≠ a → N.testBit p = true → g p = p) → i ≤ cnt (fun p => N.testBit p) B.n →
      ∃ N' g', Cyc s B.n N' cyc g' ∧ (∀ p, p < B.n → N.testBit p = true → N'.testBit p = true) ∧ (∀ p, p < B.n → N'.testBit p = true → g' p = p) ∧ jl3 (B_X0_isOddByCycles_36 K w x x4 x5) F (nI N) (nI q) (nI i) = B_X0_isOddByCycles_88 K w x (nI N') x4 x5 := by
  have hd := dims hB
  have stop : ∀ (N q : Nat) (g : Nat → Nat), Cyc s B.n N cyc g → q < B.n → g a = q → (∀ p, p < B.n → p ≠ a → N.testBit p = true → g p = p) → N.testBit q = true → ∀ p, p < B.n → N.testBit p = true → g p = p := by
    intro N q g hc hq hga hfx hsq p hpn hpt
    by_cases hqa : q = a
    · by_cases hpa : p = a
      · rw [hpa, hga, hqa]
      · exact hfx p hpn hpa hpt
    · have h1 := hfx q hq hqa hsq
      have := hc.2.1 a ha q hq (by rw [hga, h1])
      exact absurd this.symm hqa
  intro d
  induction d with
  | zero =>
    intro i N q g F hi hF hc hta hq hga hfx hcnt
    obtain ⟨F, rfl⟩ : ∃ F', F = F' + 1 := ⟨F - 1, by omega⟩
    have hfull := cnt_full (q := fun p => N.testBit p) (n := B.n)
    have hle := cnt_le (fun p => N.testBit p) B.n
    have hall := hfull.mp (by omega)
    refine ⟨N, g, hc, fun _ _ h => h, stop N q g hc hq hga hfx (hall q hq), ?_⟩
    show B_X0_isOddByCycles_36 K w x x4 x5 (jl3 _ F) _ _ _ = _
    rw [B_X0_isOddByCycles_36]
    rw [c_places hB hC, if_pos (nI_le (by omega) (by omega))]
  | succ d ih =>
    intro i N q g F hi hF hc hta hq hga hfx hcnt
    obtain ⟨F, rfl⟩ : ∃ F', F = F' + 1 := ⟨F - 1, by omega⟩
    by_cases hsq : N.testBit q = true
    · refine ⟨N, g, hc, fun _ _ h => h, stop N q g hc hq hga hfx hsq, ?_⟩
      show B_X0_isOddByCycles_36 K w x x4 x5 (jl3 _ F) _ _ _ = _
      rw [B_X0_isOddByCycles_36]
      rw [c_places hB hC, if_neg (nI_ge (by omega) (by omega)), if_neg (nI_pos (by omega)), if_neg]
      intro e
      have := (bit_get N hc.1 q (by omega)).mp e
      rw [hsq] at this
      cases this
    · have hsf : N.testBit q = false := by simpa using hsq
      have hqa : q ≠ a := fun e => by rw [e, hta] at hsf; cases hsf
      have hgq : g q = s q := hc.2.2.2.1 q hq hsf
      have hadd := cnt_add (q := fun p => N.testBit p) (r := fun p => (N ||| 2 ^ q).testBit p) (j := q) hsf (by rw [bit_or, decide_eq_true rfl, Bool.or_true]) (fun p hpq => by rw [bit_or, decide_eq_false (fun e => hpq e.symm), Bool.or_false]) B.n hq
      have hEs := E_sw' hc.2.1 (a := a) (b := q) (Ne.symm hqa) ha hq
      have hnew : Cyc s B.n (N ||| 2 ^ q) cyc (fun p => g (sw a q p)) := by
        refine ⟨bit_lt hc.1 (by omega), hc.2.1.sw ha hq, fun p hpn => hc.2.2.1 _ (sw_lt ha hq hpn), fun p hpn hpf => ?_, ?_, ?_⟩
        · rw [bit_or, Bool.or_eq_false_iff] at hpf
          have hpq : p ≠ q := fun e => by have := of_decide_eq_false hpf.2; exact this e.symm
          have hpa : p ≠ a := fun e => by rw [e, hta] at hpf; cases hpf.1
          show g (sw a q p) = s p
          unfold sw
          rw [if_neg hpa, if_neg hpq]
          exact hc.2.2.2.1 p hpn hpf.1
        · have := hc.2.2.2.2.1
          omega
        · rw [hEs, hadd, ← hc.2.2.2.2.2, show cnt (fun p => N.testBit p) B.n + 1 + cyc = cnt (fun p => N.testBit p) B.n + cyc + 1 by omega, odd_succ]
          generalize E g B.n = y
          generalize decide ((cnt (fun p => N.testBit p) B.n + cyc) % 2 = 1) = z
          cases y <;> cases z <;> rfl
      have e1 : (fun p => g (sw a q p)) a = s q := by
        show g (sw a q a) = s q
        unfold sw
        rw [if_pos rfl, hgq]
      obtain ⟨N', g', k1, k2, k3, k4⟩ := ih (i + 1) (N ||| 2 ^ q) (s q) (fun p => g (sw a q p)) F (by omega) (by omega) hnew (by rw [bit_or, hta, Bool.true_or]) (hs q hq) e1 (fun p hpn hpa hpt => by
        show g (sw a q p) = p
        unfold sw
        rw [if_neg hpa]
        by_cases hpq : p = q
        · rw [if_pos hpq, hga, hpq]
        · rw [if_neg hpq]
          rw [bit_or, decide_eq_false (fun e => hpq e.symm), Bool.or_false] at hpt
          exact hfx p hpn hpa hpt) (by omega)
      refine ⟨N', g', k1, fun p hpn hpt => k2 p hpn (by rw [bit_or, hpt, Bool.true_or]), k3, ?_⟩
      show B_X0_isOddByCycles_36 K w x x4 x5 (jl3 _ F) _ _ _ = _
      rw [B_X0_isOddByCycles_36]
      rw [c_places hB hC, if_neg (nI_ge (by omega) (by omega)), if_neg (nI_pos (by omega)), if_pos ((bit_get N hc.1 q (by omega)).mpr hsf), hp q hq, Option.bind_some, bit_set N hc.1 q (by omega), show nI i + 1 = nI (i + 1) from (nI_succ i).symm]
      exact k4
theorem cyc_out (hB : B.ok) (hC : CB w 1 B) (hp : ∀ p, p < B.n → F_X0_placeOf w x (F_X5_codeAt (gL w 1 2) (nI p)) = some (nI (s p))) (hs : ∀ p, p < B.n → s p < B.n) :
    ∀ (d k N cyc : Nat) (g : Nat → Nat) (F : Nat), k + d = B.n → d < F → Cyc s B.n N cyc g → (∀ p, p < B.n → N.testBit p = true → g p = p) → (∀ p, p < k → N.testBit p = true) →
      jl3 (B_X0_isOddByCycles_8 w x) F (nI N) (nI cyc) (nI k) = some (bI (E s B.n)) := by
  have hd := dims hB
  intro d
  induction d with
  | zero =>
    intro k N cyc g F hk hF hc hfx hse
    obtain ⟨F, rfl⟩ : ∃ F', F = F' + 1 := ⟨F - 1, by omega⟩
    show B_X0_isOddByCycles_8 w x (jl3 _ F) _ _ _ = _
    have hfull : cnt (fun p => N.testBit p) B.n = B.n := cnt_full.mpr (fun p hpn => hse p (by omega))
    obtain ⟨h1, h2, h3, h4, h5, h6⟩ := hc
    rw [hfull] at h5 h6
    rw [E_id (fun p hpn => hfx p hpn (hse p (by omega))), Bool.false_xor] at h6
    rw [B_X0_isOddByCycles_8, B_X0_isOddByCycles_94]
    rw [c_places hB hC, if_pos (nI_le (by omega) (by omega)), pk_sub h5, L2, jrem_nI (by omega) (by decide) (by decide), L0, iteq (by omega) (by omega), ← h6]
    by_cases h : (B.n - cyc) % 2 = 0
    · rw [if_pos h, decide_eq_false (by omega)]
      rfl
    · rw [if_neg h, decide_eq_true (by omega)]
      rfl
  | succ d ih =>
    intro k N cyc g F hk hF hc hfx hse
    obtain ⟨F, rfl⟩ : ∃ F', F = F' + 1 := ⟨F - 1, by omega⟩
    show B_X0_isOddByCycles_8 w x (jl3 _ F) _ _ _ = _
    have hkn : k < B.n := by omega
    rw [B_X0_isOddByCycles_8, B_X0_isOddByCycles_29, B_X0_isOddByCycles_29]
    rw [c_places hB hC, if_neg (nI_ge hkn (by omega))]
    by_cases hsk : N.testBit k = true
    · rw [if_neg (fun e => by have := (bit_get N hc.1 k (by omega)).mp e; rw [hsk] at this; cases this)]
      have e1 : jl3 (B_X0_isOddByCycles_36 (jl3 (B_X0_isOddByCycles_8 w x) F) w x (nI cyc) (nI k)) fu (nI N) (nI k) 0 = B_X0_isOddByCycles_88 (jl3 (B_X0_isOddByCycles_8 w x) F) w x (nI N) (nI cyc) (nI k) := by
        show B_X0_isOddByCycles_36 _ w x _ _ (jl3 _ 3999) _ _ _ = _
        rw [B_X0_isOddByCycles_36]
        rw [c_places hB hC, if_neg (nI_nle (by omega) (by omega)), if_neg (nI_pos (by omega)), if_neg (fun e => by have := (bit_get N hc.1 k (by omega)).mp e; rw [hsk] at this; cases this)]
      rw [e1]
      unfold B_X0_isOddByCycles_88
      rw [show nI k + 1 = nI (k + 1) from (nI_succ k).symm]
      refine ih (k + 1) N cyc g F (by omega) (by omega) hc hfx (fun p hpk => ?_)
      rcases Nat.lt_or_ge p k with h | h
      · exact hse p h
      · rw [show p = k by omega]; exact hsk
    · have hsf : N.testBit k = false := by simpa using hsk
      rw [if_pos ((bit_get N hc.1 k (by omega)).mpr hsf), show nI cyc + 1 = nI (cyc + 1) from (nI_succ cyc).symm]
      have hadd := cnt_add (q := fun p => N.testBit p) (r := fun p => (N ||| 2 ^ k).testBit p) (j := k) hsf (by rw [bit_or, decide_eq_true rfl, Bool.or_true]) (fun p hpq => by rw [bit_or, decide_eq_false (fun e => hpq e.symm), Bool.or_false]) B.n hkn
      have hnew : Cyc s B.n (N ||| 2 ^ k) (cyc + 1) g := by
        refine ⟨bit_lt hc.1 (by omega), hc.2.1, hc.2.2.1, fun p hpn hpf => ?_, ?_, ?_⟩
        · rw [bit_or, Bool.or_eq_false_iff] at hpf
          exact hc.2.2.2.1 p hpn hpf.1
        · have := hc.2.2.2.2.1
          omega
        · rw [hadd, ← hc.2.2.2.2.2]
          congr 2
          apply propext
          constructor <;> intro <;> omega
      have e0 : jl3 (B_X0_isOddByCycles_36 (jl3 (B_X0_isOddByCycles_8 w x) F) w x (nI (cyc + 1)) (nI k)) fu (nI N) (nI k) 0 = jl3 (B_X0_isOddByCycles_36 (jl3 (B_X0_isOddByCycles_8 w x) F) w x (nI (cyc + 1)) (nI k)) 3999 (nI (N ||| 2 ^ k)) (nI (s k)) (nI 1) := by
        show B_X0_isOddByCycles_36 _ w x _ _ (jl3 _ 3999) _ _ _ = _
        rw [B_X0_isOddByCycles_36]
        rw [c_places hB hC, if_neg (nI_nle (by omega) (by omega)), if_neg (nI_pos (by omega)), if_pos ((bit_get N hc.1 k (by omega)).mpr hsf), hp k hkn, Option.bind_some, bit_set N hc.1 k (by omega)]
        rfl
      rw [e0]
      have hone : 1 ≤ cnt (fun p => (N ||| 2 ^ k).testBit p) B.n := by omega
      obtain ⟨N', g', k1, k2, k3, k4⟩ := cyc_in hB hC hp hs (jl3 (B_X0_isOddByCycles_8 w x) F) (nI (cyc + 1)) (nI k) hkn (B.n - 1) 1 (N ||| 2 ^ k) (s k) g 3999 (by omega) (by omega) hnew (by rw [bit_or, decide_eq_true rfl, Bool.or_true]) (hs k hkn) (hc.2.2.2.1 k hkn hsf) (fun p hpn hpk hpt => by
        rw [bit_or, decide_eq_false (fun e => hpk e.symm), Bool.or_false] at hpt
        exact hfx p hpn hpt) hone
      rw [k4]
      unfold B_X0_isOddByCycles_88
      rw [show nI k + 1 = nI (k + 1) from (nI_succ k).symm]
      refine ih (k + 1) N' (cyc + 1) g' F (by omega) (by omega) k1 k3 (fun p hpk => ?_)
      refine k2 p (by omega) ?_
      rcases Nat.lt_or_ge p k with h | h
      · rw [bit_or, hse p h, Bool.true_or]
      · rw [bit_or, decide_eq_true (show k = p by omega), Bool.or_true]
theorem c_cycles (hB : B.ok) (hC : CB w 1 B) (hp : ∀ p, p < B.n → F_X0_placeOf w x (F_X5_codeAt (gL w 1 2) (nI p)) = some (nI (s p))) (hs : ∀ p, p < B.n → s p < B.n) (hi : Inj s B.n) : F_X0_isOddByCycles w x = some (bI (E s B.n)) := by
  have hd := dims hB
  unfold F_X0_isOddByCycles
  have h0 : cnt (fun p => Nat.testBit 0 p) B.n = 0 := by
    have : ∀ n, cnt (fun p => Nat.testBit 0 p) n = 0 := by
      intro n
      induction n with
      | zero => rfl
      | succ n ih => rw [cnt_no (by simp), ih]
    exact this _
  refine cyc_out hB hC hp hs B.n 0 0 0 s fu (by omega) (by rw [fu4]; omega) ⟨by decide, hi, hs, fun p _ _ => rfl, Nat.zero_le _, ?_⟩ (fun p _ h => by simp at h) (fun p h => absurd h (Nat.not_lt_zero p))
  rw [h0]
  exact Bool.xor_false _
end CPa
